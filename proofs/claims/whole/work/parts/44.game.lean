/-! board, cell, foe, start, begin, press, state -/
theorem fill_i {F n : Nat} (x : Int32) (hn : n < 2 ^ 31) : ∀ (m k : Nat) (y : Nat → Int32), k ≤ n → n - k < m →
    m_J7_fill_53178_b5 F n x m y (nI k) (nI n) = some (fun j => if k ≤ j ∧ j < n then x else y j) := by
  intro m
  induction m with
  | zero => intro k y _ h; omega
  | succ m ih =>
    intro k y hk hm
    unfold m_J7_fill_53178_b5
    by_cases c : k = n
    · rw [if_pos (nI_le (by omega) (by omega))]
      congr 1; funext j; rw [if_neg (by omega)]
    · rw [if_neg (nI_ge (by omega) (by omega)), if_neg (nI_in (by omega) hn), nI_clamp (by omega), nI_1, ih (k + 1) _ (by omega) (by omega)]
      congr 1; funext j
      unfold upd
      by_cases e : j = k
      · subst e; rw [if_neg (by omega), if_pos rfl, if_pos (by omega)]
      · rw [if_neg e]
        by_cases d : k + 1 ≤ j ∧ j < n
        · rw [if_pos d, if_pos (by omega)]
        · rw [if_neg d, if_neg (by omega)]
theorem fill_I {F n : Nat} (x : Int32) (y : Nat → Int32) (hn : n < 2 ^ 31) (hF : n < F) : m_J7_fill_53178 F n x y = some (fun j => if j < n then x else y j) := by
  have h := fill_i (F := F) x hn F 0 y (Nat.zero_le _) (by omega)
  have e : (fun j => if 0 ≤ j ∧ j < n then x else y j) = (fun j => if j < n then x else y j) := by
    funext j; simp only [Nat.zero_le, true_and]
  rw [e] at h; exact h
theorem fill_l {F n : Nat} (x : Int64) (hn : n < 2 ^ 31) : ∀ (m k : Nat) (y : Nat → Int64), k ≤ n → n - k < m →
    m_J7_fill_d0a16_b6 F n x m y (nI k) (nI n) = some (fun j => if k ≤ j ∧ j < n then x else y j) := by
  intro m
  induction m with
  | zero => intro k y _ h; omega
  | succ m ih =>
    intro k y hk hm
    unfold m_J7_fill_d0a16_b6
    by_cases c : k = n
    · rw [if_pos (nI_le (by omega) (by omega))]
      congr 1; funext j; rw [if_neg (by omega)]
    · rw [if_neg (nI_ge (by omega) (by omega)), if_neg (nI_in (by omega) hn), nI_clamp (by omega), nI_1, ih (k + 1) _ (by omega) (by omega)]
      congr 1; funext j
      unfold vp_updL
      by_cases e : j = k
      · subst e; rw [if_neg (by omega), if_pos rfl, if_pos (by omega)]
      · rw [if_neg e]
        by_cases d : k + 1 ≤ j ∧ j < n
        · rw [if_pos d, if_pos (by omega)]
        · rw [if_neg d, if_neg (by omega)]
theorem fill_L {F n : Nat} (x : Int64) (y : Nat → Int64) (hn : n < 2 ^ 31) (hF : n < F) : m_J7_fill_d0a16 F n x y = some (fun j => if j < n then x else y j) := by
  have h := fill_l (F := F) x hn F 0 y (Nat.zero_le _) (by omega)
  have e : (fun j => if 0 ≤ j ∧ j < n then x else y j) = (fun j => if j < n then x else y j) := by
    funext j; simp only [Nat.zero_le, true_and]
  rw [e] at h; exact h
def z4 (ik : Nat → Int32) : Nat → Int32 := fun j => if j < 4 then 0 else ik j
theorem nar0 : vp_nar .boolean (0 : Int32) = 0 := by decide
theorem nar1 : vp_nar .boolean (1 : Int32) = 1 := by decide
theorem z4_u (ik : Nat → Int32) : upd (upd (upd (upd ik 0 0) 1 0) 2 0) 3 0 = z4 ik := by
  funext j
  unfold upd z4
  by_cases h : j < 4
  · rw [if_pos h]
    rcases (by omega : j = 0 ∨ j = 1 ∨ j = 2 ∨ j = 3) with rfl | rfl | rfl | rfl <;> rfl
  · rw [if_neg h, if_neg (by omega), if_neg (by omega), if_neg (by omega), if_neg (by omega)]
theorem change_c {F : Nat} (hF : 10000000 ≤ F) (st a b c : Int32) (ik : Nat → Int32) : m_X7_beginInChangedGame F st a b c ik = some (st, 0, 0, z4 ik) := by
  obtain ⟨G, hG⟩ : ∃ G, F = G + 5 := ⟨F - 5, by omega⟩
  unfold m_X7_beginInChangedGame
  have h : m_X7_beginInChangedGame_b2 F st (G + 5) a b c ik 0 = some (st, 0, 0, z4 ik) := by
    rw [← z4_u]
    simp only [m_X7_beginInChangedGame_b2, nar0]
    rfl
  rw [← hG] at h; exact h
theorem change_r {F : Nat} (hF : 10000000 ≤ F) (st a b c d : Int32) (ik : Nat → Int32) : m_X8_changed F st a b c d ik = some (st, 0, 0, 0, z4 ik) := by
  obtain ⟨G, hG⟩ : ∃ G, F = G + 5 := ⟨F - 5, by omega⟩
  unfold m_X8_changed
  have h : m_X8_changed_b2 F st (G + 5) a b c d ik 0 = some (st, 0, 0, 0, z4 ik) := by
    rw [← z4_u]
    simp only [m_X8_changed_b2, nar0]
    rfl
  rw [← hG] at h; exact h
theorem allc_in {F w h y : Nat} (hw : w ≤ 8) (hy : y < 8) (kk : Int64 → Int32 → Option Int64) : ∀ (m x : Nat) (v : Int64), x ≤ w → w - x < m →
    ∃ v', m_X0_allCells_b15 F (nI w) (nI h) kk m v (nI y) (nI x) = kk v' (nI (y + 1)) ∧ ∀ c, bL v' c ↔ (bL v c ∨ (c / 8 = y ∧ x ≤ c % 8 ∧ c % 8 < w)) := by
  intro m
  induction m with
  | zero => intro x v _ h; omega
  | succ m ih =>
    intro x v hx hm
    unfold m_X0_allCells_b15
    by_cases c : x = w
    · rw [if_pos (nI_le (by omega) (by omega)), nI_1]
      exact ⟨v, rfl, fun c => ⟨.inl, fun h => h.resolve_right (by omega)⟩⟩
    · rw [if_neg (nI_ge (by omega) (by omega)), nI_1]
      have e : m_X0_cellAt (nI x) (nI y) = nI (8 * y + x) := by unfold m_X0_cellAt; rw [l_8, pk_mul, nI_add]; congr 1; omega
      rw [e]
      obtain ⟨v', h1, h2⟩ := ih (x + 1) (v ||| ((1 : Int64) <<< ((nI (8 * y + x)).toInt64 &&& 63))) (by omega) (by omega)
      refine ⟨v', h1, fun c => ?_⟩
      rw [h2, bL_or, bL_one (by omega)]
      constructor
      · rintro ((h | h) | h)
        · exact .inl h
        · right; omega
        · right; omega
      · rintro (h | h)
        · exact .inl (.inl h)
        · by_cases d : c = 8 * y + x
          · exact .inl (.inr d)
          · right; omega
theorem allc_out {F w h : Nat} (hw : w ≤ 8) (hh : h ≤ 8) (hF : 10000000 ≤ F) : ∀ (m y : Nat) (v : Int64), y ≤ h → h - y < m →
    ∃ v', m_X0_allCells_b4 F (nI w) (nI h) m v (nI y) = some v' ∧ ∀ c, bL v' c ↔ (bL v c ∨ (y ≤ c / 8 ∧ c / 8 < h ∧ c % 8 < w)) := by
  intro m
  induction m with
  | zero => intro y v _ h; omega
  | succ m ih =>
    intro y v hy hm
    unfold m_X0_allCells_b4
    by_cases c : y = h
    · rw [if_pos (nI_le (by omega) (by omega))]
      exact ⟨v, rfl, fun c => ⟨.inl, fun h => h.resolve_right (by omega)⟩⟩
    · rw [if_neg (nI_ge (by omega) (by omega))]
      obtain ⟨v1, h1, h2⟩ := allc_in (F := F) (w := w) (h := h) (y := y) hw (by omega) (m_X0_allCells_b4 F (nI w) (nI h) m) F 0 v (by omega) (by omega)
      obtain ⟨v', h3, h4⟩ := ih (y + 1) v1 (by omega) (by omega)
      refine ⟨v', ?_, fun c => ?_⟩
      · rw [l_0, h1, h3]
      · rw [h4, h2]
        constructor
        · rintro ((h | h) | h)
          · exact .inl h
          · right; omega
          · right; omega
        · rintro (h | h)
          · exact .inl (.inl h)
          · by_cases d : c / 8 = y
            · exact .inl (.inr (by omega))
            · right; omega
/-- the sets of cells that the class keeps are those of the cells -/
def i_g (w h : Nat) (ki : Nat → Nat) (opn kyc : Nat → Int64) (gc : Int64) : Prop :=
  (∀ k, k < 8 → ∀ c, c < 64 → (bL (opn k) c ↔ ((c % 8 < w ∧ c / 8 < h) ∧ g_lets (ki c) k = true))) ∧
  (∀ k, k < 3 → ∀ c, c < 64 → (bL (kyc k) c ↔ ki c = k + 2)) ∧ ∀ c, c < 64 → (bL gc c ↔ ki c = 8)
theorem lay_c {F w h : Nat} (hw : w ≤ 8) (hh : h ≤ 8) (hF : 10000000 ≤ F) (gc : Int64) (w0 h0 r0 s0 : Int32) (ki : Nat → Nat) (opn kyc : Nat → Int64) :
    ∃ opn' kyc', m_X0_lay F (nI w) (nI h) gc w0 h0 r0 s0 (fun j => nI (ki j)) opn kyc = some (0, nI w, nI h, 0, 0, (fun j => nI (if j < 64 then 0 else ki j)), opn', kyc') ∧ i_g w h (fun j => if j < 64 then 0 else ki j) opn' kyc' 0 := by
  obtain ⟨v, hv, hv2⟩ := allc_out (F := F) hw hh hF F 0 0 (by omega) (by omega)
  refine ⟨fun j => if j < 8 then v else opn j, fun j => if j < 3 then 0 else kyc j, ?_, ?_, ?_, ?_⟩
  · unfold m_X0_lay m_X0_allCells
    rw [fill_I _ _ (by decide) (by omega), Option.bind_some, l_0, hv, Option.bind_some, fill_L _ _ (by decide) (by omega), Option.bind_some, fill_L _ _ (by decide) (by omega), Option.bind_some]
    congr 7; funext j; split <;> rfl
  · intro k hk c hc
    dsimp only; rw [if_pos hk, hv2, if_pos hc]
    constructor
    · rintro (h | h)
      · exact absurd h (bL_0 c)
      · exact ⟨⟨h.2.2, h.2.1⟩, by unfold g_lets; rw [if_neg (by omega)]; rfl⟩
    · intro h; right; omega
  · intro k hk c hc
    dsimp only; rw [if_pos hk, if_pos hc]
    exact ⟨fun h => absurd h (bL_0 c), fun h => by omega⟩
  · intro c hc
    dsimp only; rw [if_pos hc]
    exact ⟨fun h => absurd h (bL_0 c), fun h => by omega⟩
theorem setk_b55 {F c kd : Nat} (hc : c < 64) (hkd : kd ≤ 8) (gc : Int64) (ki : Nat → Int32) (opn : Nat → Int64) : ∀ (m k : Nat) (kyc : Nat → Int64), k ≤ 3 → 3 - k < m →
    ∃ kyc', m_X0_setKind_b55 F (nI c) (nI kd) m gc ki opn kyc (nI k) = some (m_X0_with gc (nI c) (b01 (decide (kd = 8))), ki, opn, kyc') ∧ ∀ j, kyc' j = if k ≤ j ∧ j < 3 then m_X0_with (kyc j) (nI c) (b01 (decide (kd = j + 2))) else kyc j := by
  intro m
  induction m with
  | zero => intro k y _ h; omega
  | succ m ih =>
    intro k kyc hk hm
    unfold m_X0_setKind_b55 m_X0_setKind_b94 m_X0_setKind_b111 m_X0_setKind_b84
    by_cases e : k = 3
    · refine ⟨kyc, ?_, fun j => by rw [if_neg (by omega)]⟩
      by_cases d : kd = 8
      · rw [b01_t (by simp [d])]
        simp (disch := omega) only [l_0, l_1, l_2, l_3, l_4, l_5, l_6, l_7, l_8, l_9, l_15, l_16, l_31, l_39, l_40, l_48, l_63, l_64, l_100, l_159, l_160, l_200, l_300, l_400, l_499, l_500, l_512, l_640, l_2000, l_3072, l_3100, l_48160, l_1073741824, nI_add, pk_mul, n_sub, n_div, nI_ltI, nI_leI, nI_eq, nI_clamp, n_m1, n_m1a, n_eqm, n_meq, n_ltm, n_mlt, n_lem, n_mle, n_mlt0, n_mm, if_pos, if_neg, if_true, if_false]
      · rw [b01_f (by simp [d])]
        simp (disch := omega) only [l_0, l_1, l_2, l_3, l_4, l_5, l_6, l_7, l_8, l_9, l_15, l_16, l_31, l_39, l_40, l_48, l_63, l_64, l_100, l_159, l_160, l_200, l_300, l_400, l_499, l_500, l_512, l_640, l_2000, l_3072, l_3100, l_48160, l_1073741824, nI_add, pk_mul, n_sub, n_div, nI_ltI, nI_leI, nI_eq, nI_clamp, n_m1, n_m1a, n_eqm, n_meq, n_ltm, n_mlt, n_lem, n_mle, n_mlt0, n_mm, if_pos, if_neg, if_true, if_false]
    · by_cases d : kd = 2 + k
      · obtain ⟨q, h1, h2⟩ := ih (k + 1) (vp_updL kyc k (m_X0_with (kyc k) (nI c) (nI 1))) (by omega) (by omega)
        refine ⟨q, ?_, fun j => ?_⟩
        · simp (disch := omega) only [l_0, l_1, l_2, l_3, l_4, l_5, l_6, l_7, l_8, l_9, l_15, l_16, l_31, l_39, l_40, l_48, l_63, l_64, l_100, l_159, l_160, l_200, l_300, l_400, l_499, l_500, l_512, l_640, l_2000, l_3072, l_3100, l_48160, l_1073741824, nI_add, pk_mul, n_sub, n_div, nI_ltI, nI_leI, nI_eq, nI_clamp, n_m1, n_m1a, n_eqm, n_meq, n_ltm, n_mlt, n_lem, n_mle, n_mlt0, n_mm, if_pos, if_neg, if_true, if_false]
          exact h1
        · rw [h2]
          by_cases r : j = k
          · subst r; rw [if_neg (by omega), if_pos (by omega), pk_uLs, b01_t (by simp; omega)]; rfl
          · rw [pk_uLn r]
            by_cases s : k + 1 ≤ j ∧ j < 3
            · rw [if_pos s, if_pos (by omega)]
            · rw [if_neg s, if_neg (by omega)]
      · obtain ⟨q, h1, h2⟩ := ih (k + 1) (vp_updL kyc k (m_X0_with (kyc k) (nI c) (nI 0))) (by omega) (by omega)
        refine ⟨q, ?_, fun j => ?_⟩
        · simp (disch := omega) only [l_0, l_1, l_2, l_3, l_4, l_5, l_6, l_7, l_8, l_9, l_15, l_16, l_31, l_39, l_40, l_48, l_63, l_64, l_100, l_159, l_160, l_200, l_300, l_400, l_499, l_500, l_512, l_640, l_2000, l_3072, l_3100, l_48160, l_1073741824, nI_add, pk_mul, n_sub, n_div, nI_ltI, nI_leI, nI_eq, nI_clamp, n_m1, n_m1a, n_eqm, n_meq, n_ltm, n_mlt, n_lem, n_mle, n_mlt0, n_mm, if_pos, if_neg, if_true, if_false]
          exact h1
        · rw [h2]
          by_cases r : j = k
          · subst r; rw [if_neg (by omega), if_pos (by omega), pk_uLs, b01_f (by simp; omega)]; rfl
          · rw [pk_uLn r]
            by_cases s : k + 1 ≤ j ∧ j < 3
            · rw [if_pos s, if_pos (by omega)]
            · rw [if_neg s, if_neg (by omega)]
theorem setk_b20 {F c kd : Nat} (hF : 10000000 ≤ F) (hc : c < 64) (hkd : kd ≤ 8) (gc : Int64) (ki : Nat → Int32) (kyc : Nat → Int64) : ∀ (m k : Nat) (opn : Nat → Int64), k ≤ 8 → 8 - k < m →
    ∃ opn' kyc', m_X0_setKind_b20 F (nI c) (nI kd) m gc ki opn kyc (nI k) = some (m_X0_with gc (nI c) (b01 (decide (kd = 8))), ki, opn', kyc') ∧ (∀ j, opn' j = if k ≤ j ∧ j < 8 then m_X0_with (opn j) (nI c) (b01 (g_lets kd j)) else opn j) ∧ ∀ j, kyc' j = if j < 3 then m_X0_with (kyc j) (nI c) (b01 (decide (kd = j + 2))) else kyc j := by
  intro m
  induction m with
  | zero => intro k y _ h; omega
  | succ m ih =>
    intro k opn hk hm
    unfold m_X0_setKind_b20
    by_cases e : k = 8
    · obtain ⟨q, h1, h2⟩ := setk_b55 (F := F) hc hkd gc ki opn F 0 kyc (by omega) (by omega)
      refine ⟨opn, q, ?_, fun j => by rw [if_neg (by omega)], fun j => by rw [h2]; simp only [Nat.zero_le, true_and]⟩
      simp (disch := omega) only [l_0, l_1, l_2, l_3, l_4, l_5, l_6, l_7, l_8, l_9, l_15, l_16, l_31, l_39, l_40, l_48, l_63, l_64, l_100, l_159, l_160, l_200, l_300, l_400, l_499, l_500, l_512, l_640, l_2000, l_3072, l_3100, l_48160, l_1073741824, nI_add, pk_mul, n_sub, n_div, nI_ltI, nI_leI, nI_eq, nI_clamp, n_m1, n_m1a, n_eqm, n_meq, n_ltm, n_mlt, n_lem, n_mle, n_mlt0, n_mm, if_pos, if_neg, if_true, if_false]
      exact h1
    · obtain ⟨p, q, h1, h2, h3⟩ := ih (k + 1) (vp_updL opn k (m_X0_with (opn k) (nI c) (b01 (g_lets kd k)))) (by omega) (by omega)
      refine ⟨p, q, ?_, fun j => ?_, h3⟩
      · have hl : m_X0_lets (nI kd) (nI k) = b01 (g_lets kd k) := g_lets_c _ (by omega) _ (by omega)
        simp (disch := omega) only [l_0, l_1, l_2, l_3, l_4, l_5, l_6, l_7, l_8, l_9, l_15, l_16, l_31, l_39, l_40, l_48, l_63, l_64, l_100, l_159, l_160, l_200, l_300, l_400, l_499, l_500, l_512, l_640, l_2000, l_3072, l_3100, l_48160, l_1073741824, nI_add, pk_mul, n_sub, n_div, nI_ltI, nI_leI, nI_eq, nI_clamp, n_m1, n_m1a, n_eqm, n_meq, n_ltm, n_mlt, n_lem, n_mle, n_mlt0, n_mm, if_pos, if_neg, if_true, if_false, hl]
        exact h1
      · rw [h2]
        by_cases r : j = k
        · subst r; rw [if_neg (by omega), if_pos (by omega), pk_uLs]
        · rw [pk_uLn r]
          by_cases s : k + 1 ≤ j ∧ j < 8
          · rw [if_pos s, if_pos (by omega)]
          · rw [if_neg s, if_neg (by omega)]
theorem setk_c {F w h c kd : Nat} (hF : 10000000 ≤ F) (hc : c < 64) (hb : g_b w h c) (hkd : kd ≤ 8) {gc : Int64} {ki : Nat → Nat} {opn kyc : Nat → Int64} (hi : i_g w h ki opn kyc gc) :
    ∃ gc' opn' kyc', m_X0_setKind F (nI c) (nI kd) gc (fun j => nI (ki j)) opn kyc = some (gc', (fun j => nI (nu ki c kd j)), opn', kyc') ∧ i_g w h (nu ki c kd) opn' kyc' gc' := by
  obtain ⟨p, q, h1, h2, h3⟩ := setk_b20 (F := F) hF hc hkd gc (upd (fun j => nI (ki j)) c (nI kd)) kyc F 0 opn (by omega) (by omega)
  rw [n_upd] at h1
  refine ⟨m_X0_with gc (nI c) (b01 (decide (kd = 8))), p, q, ?_, ?_, ?_, ?_⟩
  rotate_left
  · obtain ⟨i1, i2, i3⟩ := hi
    intro k hk d hd
    rw [h2, if_pos (by omega), with_if hc hd]
    by_cases e : d = c
    · subst e
      rw [if_pos rfl, nu_s]
      exact ⟨fun h => ⟨hb, h⟩, fun h => h.2⟩
    · rw [if_neg e, nu_n _ _ e, i1 k hk d hd]
  · obtain ⟨i1, i2, i3⟩ := hi
    intro k hk d hd
    rw [h3, if_pos (by omega), with_if hc hd]
    by_cases e : d = c
    · subst e
      rw [if_pos rfl, nu_s, decide_eq_true_eq]
    · rw [if_neg e, nu_n _ _ e, i2 k hk d hd]
  · obtain ⟨i1, i2, i3⟩ := hi
    intro d hd
    rw [with_if hc hd]
    by_cases e : d = c
    · subst e
      rw [if_pos rfl, nu_s, decide_eq_true_eq]
    · rw [if_neg e, nu_n _ _ e, i3 d hd]
  · unfold m_X0_setKind
    simp (disch := omega) only [l_0, l_1, l_2, l_3, l_4, l_5, l_6, l_7, l_8, l_9, l_15, l_16, l_31, l_39, l_40, l_48, l_63, l_64, l_100, l_159, l_160, l_200, l_300, l_400, l_499, l_500, l_512, l_640, l_2000, l_3072, l_3100, l_48160, l_1073741824, nI_add, pk_mul, n_sub, n_div, nI_ltI, nI_leI, nI_eq, nI_clamp, n_m1, n_m1a, n_eqm, n_meq, n_ltm, n_mlt, n_lem, n_mle, n_mlt0, n_mm, if_pos, if_neg, if_true, if_false, n_upd]
    exact h1
theorem has_0 {w h x y : Int32} (k : x < 0 ∨ w ≤ x ∨ y < 0 ∨ h ≤ y) : m_X0_has w h x y = 0 := by
  unfold m_X0_has
  by_cases a : x < 0
  · rw [if_pos a]
  · rw [if_neg a]
    by_cases b : w ≤ x
    · rw [if_pos b]
    · rw [if_neg b]
      by_cases c : y < 0
      · rw [if_pos c]
      · rw [if_neg c]
        by_cases d : h ≤ y
        · rw [if_pos d]
        · exact absurd k (by rintro (e | e | e | e) <;> contradiction)
/-- a place told: off the board, or a cell on it -/
theorem has_any {w h : Nat} (hw : w ≤ 8) (hh : h ≤ 8) (x y : Int32) : m_X0_has (nI w) (nI h) x y = 0 ∨ ∃ c, g_b w h c ∧ c < 64 ∧ m_X0_has (nI w) (nI h) x y = 1 ∧ m_X0_cellAt x y = nI c ∧ (8 : Int32) * y + x = nI c := by
  rcases pk_ix x (n := w) (by omega) with h1 | h1 | ⟨a, ha, rfl⟩
  · left; exact has_0 (.inl h1)
  · left; exact has_0 (.inr (.inl h1))
  · rcases pk_ix y (n := h) (by omega) with h1 | h1 | ⟨b, hb, rfl⟩
    · left; exact has_0 (.inr (.inr (.inl h1)))
    · left; exact has_0 (.inr (.inr (.inr h1)))
    · right
      refine ⟨8 * b + a, ⟨by omega, by omega⟩, by omega, ?_, ?_, ?_⟩
      · rw [g_has_c (by omega) (by omega) (by omega) (by omega), if_pos ⟨ha, hb⟩]
      · unfold m_X0_cellAt; rw [l_8, pk_mul, nI_add]; congr 1; omega
      · rw [l_8, pk_mul, nI_add]
theorem size_any (x : Int32) : (m_X0_isSize x = 0 ∧ (x < 2 ∨ 8 < x)) ∨ ∃ n, 2 ≤ n ∧ n ≤ 8 ∧ x = nI n ∧ m_X0_isSize x = 1 := by
  unfold m_X0_isSize
  by_cases h1 : x < 2
  · left; rw [if_pos h1]; exact ⟨rfl, .inl h1⟩
  · by_cases h2 : 8 < x
    · left; rw [if_neg h1, if_pos h2]; exact ⟨rfl, .inr h2⟩
    · right
      have h0 : ¬ x < 0 := by rw [fa_lt] at h1 ⊢; intro h; exact h1 (by have e : (2 : Int32).toInt = 2 := rfl; have e0 : (0 : Int32).toInt = 0 := rfl; omega)
      obtain ⟨n, hn, rfl⟩ := nI_of h0
      rw [if_neg h1, if_neg h2]
      rw [l_2, nI_ltI (by omega) (by omega)] at h1
      rw [l_8, nI_ltI (by omega) (by omega)] at h2
      exact ⟨n, by omega, by omega, rfl, rfl⟩
