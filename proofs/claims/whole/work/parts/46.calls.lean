/-! save, back, best, claim, unclaim, prove, differs, split, unsplit, count -/
def i_k (w h : Nat) (ik ks ko kl : Nat → Int32) (kq : Nat → Nat → Nat) (ra rk rt rov rp : Nat → Int32) : Prop :=
  (∀ p j, kq p j < 5) ∧ ∀ p, p < 4 → (∀ j, j < 500 → rp (500 * p + j) = nI (kq p j)) ∧
    (ik p = 0 ∨ ∃ a k t ov, i_r w h a k t ov ∧ ks p = nI (64 * k + a) ∧ ko p = nI ov ∧ kl p = nI t ∧ ra p = nI a ∧ rk p = nI k ∧ rt p = nI t ∧ rov p = nI ov)
theorem place_any (x : Int32) : (m_X7_isPlace x = 0 ∧ (x < 0 ∨ 3 < x)) ∨ ∃ p, p < 4 ∧ x = nI p ∧ m_X7_isPlace x = 1 := by
  rcases pk_ix x (n := 4) (by decide) with h | h | ⟨j, hj, rfl⟩
  · left; unfold m_X7_isPlace; rw [if_pos h]; exact ⟨rfl, .inl h⟩
  · left; unfold m_X7_isPlace
    refine ⟨?_, .inr ?_⟩
    · by_cases q : x < 0
      · rw [if_pos q]
      · rw [if_neg q]; exact if_pos h
    · rw [fa_le] at h; rw [fa_lt]
      have e : (nI 4).toInt = 4 := rfl
      have e2 : (3 : Int32).toInt = 3 := rfl
      omega
  · right
    refine ⟨j, hj, rfl, ?_⟩
    unfold m_X7_isPlace
    rw [if_neg (nI_pos (by omega)), if_neg (by rw [l_4]; exact nI_ge (by omega) (by decide))]; 
theorem take_c {n : Nat} (hn : n < 2 ^ 31) {t : Nat} (ht : t ≤ n) (g f : Nat → Int32) (c : Int32) : m_X3_takeFrom (nI t) g n n c f = some (nI t, fun j => if j < t then g j else f j) := by
  unfold m_X3_takeFrom
  have e : Int32.ofNat n = nI n := rfl
  rw [e, if_neg (nI_nlt (by omega) (by omega)), nI_clamp (by omega), if_neg (by rintro (q | q | q); exact nI_pos (by omega) q; omega; omega)]
  congr 2
  funext j
  have e0 : (0 : Int32).toNatClampNeg = 0 := rfl
  rw [e0]
  by_cases q : j < t
  · rw [pk_cpy_in (by omega) (by omega), if_pos q]; congr 1; omega
  · rw [pk_cpy_out (by omega), if_neg q]
theorem save_r {F : Nat} {p t : Nat} (hp : p < 4) (ht : t ≤ 500) (at_ ks ov : Int32) (ps : Nat → Int32) (ik ra rk rt rov : Nat → Int32) : ∀ (m i : Nat) (rp : Nat → Int32), i ≤ t → t - i < m →
    ∃ rp', m_X8_save_b65 F at_ ks (nI t) ov ps (nI p) m ik ra rk rt rov rp (nI i) = some (1, ik, ra, rk, rt, rov, rp') ∧ ∀ j, rp' j = if 500 * p + i ≤ j ∧ j < 500 * p + t then ps (j - 500 * p) else rp j := by
  intro m
  induction m with
  | zero => intro i rp _ h; omega
  | succ m ih =>
    intro i rp hi hm
    unfold m_X8_save_b65
    by_cases e : i = t
    · refine ⟨rp, ?_, fun j => by rw [if_neg (by omega)]⟩
      rw [if_pos (nI_le (by omega) (by omega))]
    · obtain ⟨rp', h1, h2⟩ := ih (i + 1) (upd rp (500 * p + i) (ps i)) (by omega) (by omega)
      refine ⟨rp', ?_, fun j => ?_⟩
      · simp (disch := omega) only [l_0, l_1, l_2, l_3, l_4, l_5, l_6, l_7, l_8, l_9, l_15, l_16, l_31, l_39, l_40, l_48, l_63, l_64, l_100, l_159, l_160, l_200, l_300, l_400, l_499, l_500, l_512, l_640, l_2000, l_3072, l_3100, l_48160, l_1073741824, nI_add, pk_mul, n_sub, n_div, nI_ltI, nI_leI, nI_eq, nI_clamp, n_m1, n_m1a, n_eqm, n_meq, n_ltm, n_mlt, n_lem, n_mle, n_mlt0, n_mm, if_pos, if_neg, if_true, if_false]
        exact h1
      · rw [h2]
        by_cases q : j = 500 * p + i
        · subst q
          rw [if_neg (by omega), pk_us, if_pos (by omega)]
          congr 1; omega
        · rw [pk_un q]
          by_cases d : 500 * p + (i + 1) ≤ j ∧ j < 500 * p + t
          · rw [if_pos d, if_pos (by omega)]
          · rw [if_neg d, if_neg (by omega)]
theorem b_save {F : Nat} (hF : 10000000 ≤ F) {w h rl : Nat} {ki ro ps : Nat → Nat} (hg : g_ok w h rl ki ro) {a k t ov : Nat} (hr : i_r w h a k t ov) (hps : ∀ j, ps j < 5) {ik ks ko kl ra rk rt rov rp : Nat → Int32} {kq : Nat → Nat → Nat} (hi : i_k w h ik ks ko kl kq ra rk rt rov rp) (x1 : Int32) :
    ∃ (r : Int32) (ik' ks' ko' kl' ra' rk' rt' rov' rp' : Nat → Int32) (kq' : Nat → Nat → Nat), i_k w h ik' ks' ko' kl' kq' ra' rk' rt' rov' rp' ∧
      m_X7_save (nI (64 * k + a)) (nI ov) (nI t) (fun j => nI (ps j)) x1 ks ko kl (fun p j => nI (kq p j)) ik = some (r, ks', ko', kl', (fun p j => nI (kq' p j)), ik') ∧
      m_X8_save F (nI a) (nI k) (nI t) (nI ov) (fun j => nI (ps j)) x1 ik ra rk rt rov rp = some (r, ik', ra', rk', rt', rov', rp') := by
  rcases place_any x1 with ⟨h1, h2⟩ | ⟨p, hp, rfl, h1⟩
  · refine ⟨0, ik, ks, ko, kl, ra, rk, rt, rov, rp, kq, hi, ?_, ?_⟩
    · unfold m_X7_save; rw [if_pos h1]
    · unfold m_X8_save
      by_cases q : x1 < 0
      · rw [if_pos q]
      · rw [if_neg q, if_neg (by have := h2.resolve_left q; rw [fa_lt] at this; rw [fa_le]; omega)]
  · have ht := hr.2.2.1
    obtain ⟨rp', e1, e2⟩ := save_r (F := F) hp ht (nI a) (nI k) (nI ov) (fun j => nI (ps j)) (upd ik p 1) (upd ra p (nI a)) (upd rk p (nI k)) (upd rt p (nI t)) (upd rov p (nI ov)) F 0 rp (by omega) (by omega)
    refine ⟨1, upd ik p 1, va_up ks p (nI (64 * k + a)), va_up ko p (nI ov), va_up kl p (nI t), upd ra p (nI a), upd rk p (nI k), upd rt p (nI t), upd rov p (nI ov), rp', (fun q j => if q = p then (if j < t then ps j else kq p j) else kq q j), ⟨?_, ?_⟩, ?_, ?_⟩
    · intro q j
      dsimp only
      split
      · split
        · exact hps j
        · exact hi.1 p j
      · exact hi.1 q j
    · intro q hq
      dsimp only
      constructor
      · intro j hj
        rw [e2]
        by_cases c : q = p
        · subst c
          rw [if_pos rfl]
          by_cases d : j < t
          · rw [if_pos (by omega), if_pos d]; congr 2; omega
          · rw [if_neg (by omega), if_neg d]; exact (hi.2 q hq).1 j hj
        · rw [if_neg (by omega), if_neg c]; exact (hi.2 q hq).1 j hj
      · by_cases c : q = p
        · subst c
          right
          refine ⟨a, k, t, ov, hr, ?_, ?_, ?_, pk_us, pk_us, pk_us, pk_us⟩
          all_goals exact if_pos rfl
        · have e3 : ∀ (f : Nat → Int32) (v : Int32), va_up f p v q = f q := fun f v => if_neg c
          rw [pk_un c, e3, e3, e3, pk_un c, pk_un c, pk_un c, pk_un c]
          exact (hi.2 q hq).2
    · unfold m_X7_save m_X4_takeFrom
      rw [h1, if_neg (show ¬ (1 : Int32) = 0 by decide), if_neg (nI_in hp (by decide)), take_c (by decide) ht]
      simp only [Option.bind_some, nar1]
      rw [if_neg (nI_in hp (by decide)), nI_clamp (by omega)]
      congr 6
      funext q j
      unfold va_up
      by_cases c : q = p
      · rw [if_pos c, if_pos c]; split <;> rfl
      · rw [if_neg c, if_neg c]
    · unfold m_X8_save
      rw [if_neg (nI_pos (by omega)), if_pos (by rw [l_3]; exact nI_le (by omega) (by decide)), if_neg (nI_in hp (by decide)), if_neg (nI_in hp (by decide)), if_neg (nI_in hp (by decide)), if_neg (nI_in hp (by decide)), if_neg (nI_in hp (by decide)), nI_clamp (by omega), nar1]
      exact e1
theorem back_r {F : Nat} {p t : Nat} (hp : p < 4) (ht : t ≤ 500) (at_ ks ov : Int32) (ik ra rk rt rov rp : Nat → Int32) : ∀ (m i : Nat) (ps : Nat → Int32), i ≤ t → t - i < m →
    ∃ ps', m_X8_back_b67 F ik ra rk rt rov rp (nI p) m at_ ks (nI t) ov ps (nI i) = some (1, at_, ks, nI t, ov, ps') ∧ ∀ j, ps' j = if i ≤ j ∧ j < t then rp (500 * p + j) else ps j := by
  intro m
  induction m with
  | zero => intro i rp _ h; omega
  | succ m ih =>
    intro i ps hi hm
    unfold m_X8_back_b67
    by_cases e : i = t
    · refine ⟨ps, ?_, fun j => by rw [if_neg (by omega)]⟩
      rw [if_pos (nI_le (by omega) (by omega))]
    · obtain ⟨rp', h1, h2⟩ := ih (i + 1) (upd ps i (rp (500 * p + i))) (by omega) (by omega)
      refine ⟨rp', ?_, fun j => ?_⟩
      · simp (disch := omega) only [l_0, l_1, l_2, l_3, l_4, l_5, l_6, l_7, l_8, l_9, l_15, l_16, l_31, l_39, l_40, l_48, l_63, l_64, l_100, l_159, l_160, l_200, l_300, l_400, l_499, l_500, l_512, l_640, l_2000, l_3072, l_3100, l_48160, l_1073741824, nI_add, pk_mul, n_sub, n_div, nI_ltI, nI_leI, nI_eq, nI_clamp, n_m1, n_m1a, n_eqm, n_meq, n_ltm, n_mlt, n_lem, n_mle, n_mlt0, n_mm, if_pos, if_neg, if_true, if_false]
        exact h1
      · rw [h2]
        by_cases q : j = i
        · subst q
          rw [if_neg (by omega), pk_us, if_pos (by omega)]
        · rw [pk_un q]
          by_cases d : i + 1 ≤ j ∧ j < t
          · rw [if_pos d, if_pos (by omega)]
          · rw [if_neg d, if_neg (by omega)]
theorem b_back {F : Nat} (hF : 10000000 ≤ F) {w h : Nat} {ps : Nat → Nat} {a k t ov : Nat} (hr : i_r w h a k t ov) (hps : ∀ j, ps j < 5) {ik ks ko kl ra rk rt rov rp : Nat → Int32} {kq : Nat → Nat → Nat} (hi : i_k w h ik ks ko kl kq ra rk rt rov rp) (x1 : Int32) :
    ∃ (r : Int32) (a' k' t' ov' : Nat) (ps' : Nat → Nat), i_r w h a' k' t' ov' ∧ (∀ j, ps' j < 5) ∧
      m_X7_back ks ko kl (fun p j => nI (kq p j)) ik x1 (nI (64 * k + a)) (nI ov) (nI t) (fun j => nI (ps j)) = some (r, nI (64 * k' + a'), nI ov', nI t', fun j => nI (ps' j)) ∧
      m_X8_back F ik ra rk rt rov rp x1 (nI a) (nI k) (nI t) (nI ov) (fun j => nI (ps j)) = some (r, nI a', nI k', nI t', nI ov', fun j => nI (ps' j)) := by
  unfold m_X7_back m_X8_back
  rcases place_any x1 with ⟨h1, h2⟩ | ⟨p, hp, rfl, h1⟩
  · refine ⟨0, a, k, t, ov, ps, hr, hps, ?_, ?_⟩
    · rw [if_pos h1]
    · by_cases q : x1 < 0
      · rw [if_pos q]
      · rw [if_neg q, if_pos (h2.resolve_left q)]
  · rw [h1, if_neg (show ¬ (1 : Int32) = 0 by decide), if_neg (nI_pos (by omega)), if_neg (show ¬ (3 : Int32) < nI p by rw [l_3]; exact nI_nlt (by omega) (by decide)), if_neg (nI_in hp (by decide)), if_neg (nI_in hp (by decide)), if_neg (nI_in hp (by decide)), if_neg (nI_in hp (by decide)), if_neg (nI_in hp (by decide)), if_neg (nI_in hp (by decide)), if_neg (nI_in hp (by decide)), nI_clamp (by omega)]
    obtain ⟨i1, i2⟩ := hi
    obtain ⟨i3, i4⟩ := i2 p hp
    by_cases q : ik p = 0
    · rw [if_pos q, if_pos q]
      exact ⟨0, a, k, t, ov, ps, hr, hps, rfl, rfl⟩
    · obtain ⟨a', k', t', ov', j1, j2, j3, j4, j5, j6, j7, j8⟩ := i4.resolve_left q
      have ht := j1.2.2.1
      obtain ⟨ps', e1, e2⟩ := back_r (F := F) hp ht (nI a') (nI k') (nI ov') ik ra rk rt rov rp F 0 (fun j => nI (ps j)) (by omega) (by omega)
      rw [if_neg q, if_neg q, j2, j3, j4, j5, j6, j7, j8]
      refine ⟨1, a', k', t', ov', (fun j => if j < t' then kq p j else ps j), j1, ?_, ?_, ?_⟩
      · intro j; dsimp only; split
        · exact i1 p j
        · exact hps j
      · unfold m_X4_takeFrom
        rw [take_c (by decide) ht]
        simp only [Option.bind_some]
        congr 5; funext j; split <;> rfl
      · refine e1.trans ?_
        congr 6; funext j
        rw [e2]
        dsimp only
        by_cases d : j < t'
        · rw [if_pos (by omega), if_pos d, i3 j (by omega)]
        · rw [if_neg (by omega), if_neg d]
theorem b_best {n : Nat} (hn : n ≤ 3072) {rw_c rw_r : Nat → Int32} (he : ∀ j, j < n → rw_c j = rw_r j) (x1 : Int32) :
    ∃ r, m_X7_best (nI n) rw_c x1 = some r ∧ m_X8_best (nI n) rw_r x1 = some r := by
  unfold m_X7_best m_X8_best m_X3_at
  rcases pk_ix x1 (n := n) (by omega) with h | h | ⟨j, hj, rfl⟩
  · rw [if_pos h, if_pos h]; exact ⟨-1, rfl, rfl⟩
  · by_cases q : x1 < 0
    · rw [if_pos q, if_pos q]; exact ⟨-1, rfl, rfl⟩
    · rw [if_neg q, if_neg q, if_pos h, if_neg (by rw [fa_le] at h; rw [fa_lt]; omega)]; exact ⟨-1, rfl, rfl⟩
  · rw [if_neg (nI_pos (by omega)), if_neg (nI_pos (by omega)), if_neg (nI_ge (by omega) (by omega)), if_pos (nI_lt hj (by omega)), if_neg (nI_in (by omega) (by decide)), if_neg (nI_in (by omega) (by decide)), nI_clamp (by omega), he j hj]
    exact ⟨_, rfl, rfl⟩
theorem b_claim {cn : Nat} (hc : cn ≤ 400) {cl : Nat → Nat} (hcl : ∀ j, cl j < 5) (x1 : Int32) :
    ∃ (r : Int32) (cn' : Nat) (cl' : Nat → Nat), cn' ≤ 400 ∧ (∀ j, cl' j < 5) ∧ m_X7_claim x1 (nI cn) (fun j => nI (cl j)) = some (r, nI cn', fun j => nI (cl' j)) ∧ m_X8_claim x1 (nI cn) (fun j => nI (cl j)) = some (r, nI cn', fun j => nI (cl' j)) := by
  unfold m_X7_claim m_X8_claim
  rcases press_any x1 with ⟨h1, h2⟩ | ⟨p, hp, rfl⟩
  · refine ⟨-1, cn, cl, hc, hcl, ?_, ?_⟩
    · rw [if_pos h1]
    · by_cases q : x1 < 0
      · rw [if_pos q]
      · rw [if_neg q, if_pos (h2.resolve_left q)]
  · rw [g_press hp, if_neg (show ¬ (1 : Int32) = 0 by decide), if_neg (nI_pos (by omega)), if_neg (show ¬ 4 < nI p by rw [l_4]; exact nI_nlt (by omega) (by omega)), add_c (by decide) hc, n_upd]
    by_cases q : cn = 400
    · subst q
      exact ⟨-1, 400, cl, hc, hcl, rfl, rfl⟩
    · refine ⟨nI (cn + 1), cn + 1, nu cl cn p, by omega, ?_, ?_, ?_⟩
      · intro j; unfold nu; split; exact hp; exact hcl j
      · rw [if_pos (by omega), Option.bind_some]; rfl
      · rw [if_neg (by rw [l_400, nI_eq (by omega) (by omega)]; exact q), if_neg (nI_in (by omega) (by decide)), nI_clamp (by omega), n_upd, nI_1]
theorem b_count {w h rl cn sn rn : Nat} (x1 : Int32) : m_X8_count (nI w) (nI h) (nI rl) (nI cn) (nI sn) (nI rn) x1 = some (m_X7_count (nI w) (nI h) (nI rl) (nI cn) (nI sn) (nI rn) x1) := by
  unfold m_X8_count m_X7_count
  repeat' split
  all_goals rfl
theorem b_split {w h : Nat} (hw : w ≤ 8) (hh : h ≤ 8) {sn : Nat} (hs : sn ≤ 5) {sc sa sb : Nat → Nat} (h1 : ∀ j, sc j < 64) (h2 : ∀ j, sa j ≤ 200) (h3 : ∀ j, sb j ≤ 200) (x1 x2 x3 x4 : Int32) :
    ∃ (r : Int32) (sn' : Nat) (sc' sa' sb' : Nat → Nat), sn' ≤ 5 ∧ (∀ j, sc' j < 64) ∧ (∀ j, sa' j ≤ 200) ∧ (∀ j, sb' j ≤ 200) ∧
      m_X7_split (nI w) (nI h) x1 x2 x3 x4 (nI sn) (fun j => nI (sc j)) (fun j => nI (sa j)) (fun j => nI (sb j)) = some (r, nI sn', (fun j => nI (sc' j)), (fun j => nI (sa' j)), (fun j => nI (sb' j))) ∧
      m_X8_split (nI w) (nI h) x1 x2 x3 x4 (nI sn) (fun j => nI (sc j)) (fun j => nI (sa j)) (fun j => nI (sb j)) = some (r, nI sn', (fun j => nI (sc' j)), (fun j => nI (sa' j)), (fun j => nI (sb' j))) := by
  unfold m_X7_split m_X8_split
  rw [g_has_r]
  rcases has_any hw hh x1 x2 with h0 | ⟨c, hb, hc, k1, k2, k3⟩
  · rw [if_pos h0, if_pos h0]; exact ⟨-1, sn, sc, sa, sb, hs, h1, h2, h3, rfl, rfl⟩
  · rw [k1, if_neg (show ¬ (1 : Int32) = 0 by decide), if_neg (show ¬ (1 : Int32) = 0 by decide), k2, k3]
    unfold m_X6_add
    by_cases q5 : sn = 5
    · subst q5
      rw [if_pos (show (5 : Int32) ≤ nI 5 by decide), if_pos (show nI 5 = 5 from rfl)]
      refine ⟨-1, 5, sc, sa, sb, hs, h1, h2, h3, rfl, ?_⟩
      repeat' split
      all_goals rfl
    · have e5 : ¬ (5 : Int32) ≤ nI sn := by rw [l_5]; exact nI_ge (by omega) (by decide)
      have e6 : ¬ nI sn = 5 := by rw [l_5, nI_eq (by omega) (by omega)]; exact q5
      rw [if_neg e5, if_neg e6]
      by_cases qa : x3 < 0
      · rw [if_pos qa, if_pos qa]; exact ⟨-1, sn, sc, sa, sb, hs, h1, h2, h3, rfl, rfl⟩
      · rw [if_neg qa, if_neg qa]
        by_cases qb : x4 < x3
        · rw [if_pos qb, if_pos qb]
          refine ⟨-1, sn, sc, sa, sb, hs, h1, h2, h3, rfl, ?_⟩
          split <;> rfl
        · rw [if_neg qb, if_neg qb]
          by_cases qc : 200 < x4
          · rw [if_pos qc, if_neg (show ¬ x4 ≤ 200 by rw [fa_lt] at qc; rw [fa_le]; omega)]
            exact ⟨-1, sn, sc, sa, sb, hs, h1, h2, h3, rfl, rfl⟩
          · have qd : x4 ≤ 200 := by rw [fa_lt] at qc; rw [fa_le]; omega
            rw [if_neg qc, if_pos qd]
            obtain ⟨a, ha, rfl⟩ := nI_of qa
            have qe : ¬ x4 < 0 := by
              rw [fa_lt] at qb ⊢
              have := (nI_toInt ha)
              have e0 : (0 : Int32).toInt = 0 := rfl
              omega
            obtain ⟨b, hb2, rfl⟩ := nI_of qe
            rw [l_200, nI_leI (by omega) (by omega)] at qd
            rw [nI_ltI (by omega) (by omega)] at qb
            simp (disch := omega) only [l_0, l_1, l_2, l_3, l_4, l_5, l_6, l_7, l_8, l_9, l_15, l_16, l_31, l_39, l_40, l_48, l_63, l_64, l_100, l_159, l_160, l_200, l_300, l_400, l_499, l_500, l_512, l_640, l_2000, l_3072, l_3100, l_48160, l_1073741824, nI_add, pk_mul, n_sub, n_div, nI_ltI, nI_leI, nI_eq, nI_clamp, n_m1, n_m1a, n_eqm, n_meq, n_ltm, n_mlt, n_lem, n_mle, n_mlt0, n_mm, if_pos, if_neg, if_true, if_false, n_upd, Option.bind_some]
            refine ⟨nI (sn + 1), sn + 1, nu sc sn c, nu sa sn a, nu sb sn b, by omega, ?_, ?_, ?_, rfl, rfl⟩
            · intro j; unfold nu; split; exact hc; exact h1 j
            · intro j; unfold nu; split; omega; exact h2 j
            · intro j; unfold nu; split; omega; exact h3 j
theorem at_c {n N : Nat} (hn : n ≤ N) (hN : N < 2 ^ 31) (f : Nat → Int32) {i : Nat} (hi : i < 2 ^ 31) : m_X3_at (nI n) f N (nI i) = some (if i < n then f i else -1) := by
  unfold m_X3_at
  by_cases q : i < n
  · rw [if_neg (nI_pos (by omega)), if_neg (nI_ge q (by omega)), if_neg (nI_in (by omega) (by omega)), nI_clamp (by omega), if_pos q]
  · rw [if_neg (nI_pos (by omega)), if_pos (nI_le (by omega) (by omega)), if_neg q]
theorem differs_l {F : Nat} {t cn : Nat} (ht : t ≤ 500) (hc : cn ≤ 400) {ps cl : Nat → Nat} (hps : ∀ j, ps j < 5) (hcl : ∀ j, cl j < 5) : ∀ (m i : Nat), i ≤ (if cn < t then t else cn) → (if cn < t then t else cn) - i < m →
    ∃ r, ((m_X3_firstUnlike_b14 F (nI cn) (fun j => nI (cl j)) (nI t) (fun j => nI (ps j)) 400 500 m (nI (if cn < t then t else cn)) (nI i)).bind fun o1 => if o1 = (-1 : Int32) then some (-1 : Int32) else some (o1 + (1 : Int32))) = some r ∧ m_X8_differs_b7 F (nI t) (nI cn) (fun j => nI (ps j)) (fun j => nI (cl j)) m (nI i) = some r := by
  intro m
  induction m with
  | zero => intro i _ h; omega
  | succ m ih =>
    intro i hi hm
    have hL : (if cn < t then t else cn) ≤ 500 := by split <;> omega
    unfold m_X3_firstUnlike_b14 m_X8_differs_b7 m_X8_differs_b23
    by_cases e : i = (if cn < t then t else cn)
    · rw [if_pos (nI_le (by omega) (by omega)), Option.bind_some, if_pos rfl]
      have h1 : cn ≤ i := by rw [e]; split <;> omega
      have h2 : t ≤ i := by rw [e]; split <;> omega
      rw [if_neg (nI_nlt h1 (by omega)), if_pos (nI_le h2 (by omega))]
      exact ⟨-1, rfl, rfl⟩
    · have hlt : i < t ∨ i < cn := by split at hi <;> (split at e <;> omega)
      rw [if_neg (nI_ge (by omega) (by omega)), at_c hc (by decide) _ (by omega), at_c ht (by decide) _ (by omega)]
      simp only [Option.bind_some]
      have hne : ¬ nI i = -1 := by
        have := n_eqm (a := i) (b := 1) (by omega) (by decide) (by decide)
        intro h; rw [← this]; exact h
      have hend : ∀ o : Option Int32, o = some (nI i) → ∃ r, (o.bind fun o1 => if o1 = (-1 : Int32) then some (-1 : Int32) else some (o1 + (1 : Int32))) = some r ∧ some (nI i + 1) = some r := by
        rintro o rfl
        rw [Option.bind_some, if_neg hne]
        exact ⟨_, rfl, rfl⟩
      by_cases c1 : i < cn
      · rw [if_pos c1, if_pos (nI_lt c1 (by omega)), if_neg (nI_ge c1 (by omega))]
        by_cases c2 : i < t
        · rw [if_pos c2, if_neg (nI_ge c2 (by omega)), if_neg (nI_in (by omega) (by decide)), if_neg (nI_in (by omega) (by decide)), nI_clamp (by omega)]
          by_cases c3 : nI (cl i) = nI (ps i)
          · rw [if_pos c3, if_pos c3, nI_1]
            exact ih (i + 1) (by omega) (by omega)
          · rw [if_neg c3, if_neg c3]
            exact hend _ rfl
        · rw [if_neg c2, if_pos (nI_le (by omega) (by omega))]
          have := n_eqm (a := cl i) (b := 1) (by have := hcl i; omega) (by decide) (by decide)
          rw [if_neg (show ¬ nI (cl i) = -1 by intro h; rw [← this]; exact h)]
          exact hend _ rfl
      · have c2 : i < t := by omega
        rw [if_neg c1, if_pos c2, if_neg (nI_nlt (by omega) (by omega)), if_neg (nI_ge c2 (by omega)), if_pos (nI_le (by omega) (by omega))]
        have := n_meq (a := ps i) (b := 1) (by have := hps i; omega) (by decide) (by decide)
        rw [if_neg (show ¬ -1 = nI (ps i) by intro h; rw [← this]; exact h)]
        exact hend _ rfl
theorem b_differs {F : Nat} (hF : 10000000 ≤ F) {t cn : Nat} (ht : t ≤ 500) (hc : cn ≤ 400) {ps cl : Nat → Nat} (hps : ∀ j, ps j < 5) (hcl : ∀ j, cl j < 5) :
    ∃ r, m_X7_differs F (nI t) (fun j => nI (ps j)) (nI cn) (fun j => nI (cl j)) = some r ∧ m_X8_differs F (nI t) (nI cn) (fun j => nI (ps j)) (fun j => nI (cl j)) = some r := by
  have hL : (if cn < t then t else cn) ≤ 500 := by split <;> omega
  obtain ⟨r, h1, h2⟩ := differs_l (F := F) ht hc hps hcl F 0 (by omega) (by omega)
  refine ⟨r, ?_, h2⟩
  unfold m_X7_differs m_X3_firstUnlike
  refine Eq.trans ?_ h1
  congr 1
  have e : (if nI cn < nI t then nI t else nI cn) = nI (if cn < t then t else cn) := by
    simp (disch := omega) only [nI_ltI]
    split <;> rfl
  rw [e]
  rfl
theorem prove_l {F : Nat} {w h rl : Nat} {ki ro : Nat → Nat} (hg : g_ok w h rl ki ro) (st : Nat) {cn : Nat} (hc : cn ≤ 400) {cl : Nat → Nat} (hcl : ∀ j, cl j < 5) (x1 : Int32) : ∀ (m i a k : Nat) (c1 c2 c3 : Int32), g_b w h a → k < 8 → i ≤ cn → cn - i < m →
    ∃ r d1 d2 d3, m_X7_prove_b19 F (nI w) (nI h) (nI rl) (nI st) (fun j => nI (ki j)) (fun j => nI (ro j)) (nI cn) (fun j => nI (cl j)) x1 m (nI (64 * k + a)) (nI cn) (nI i) = some r ∧
      m_X8_prove_b15 F (nI w) (nI h) (nI rl) (nI st) (nI cn) (fun j => nI (ki j)) (fun j => nI (ro j)) (fun j => nI (cl j)) x1 m c1 c2 c3 (nI a) (nI k) (nI i) = some (r, d1, d2, d3) := by
  intro m
  induction m with
  | zero => intro i a k c1 c2 c3 _ _ _ h; omega
  | succ m ih =>
    intro i a k c1 c2 c3 ha hk hi hm
    unfold m_X7_prove_b19 m_X8_prove_b15 m_X7_prove_b77 m_X7_prove_b83 m_X8_prove_b67
    by_cases e : i = cn
    · rw [if_pos (nI_le (by omega) (by omega)), if_pos (nI_le (by omega) (by omega))]
      exact ⟨4, c1, c2, c3, rfl, rfl⟩
    · have hp := hcl i
      have hb := g_b_lt hg ha
      have hb2 := g_b_lt hg (g_to_b (k := k) (p := cl i) hg ha)
      have hk2 := kk_lt hg (a := a) (t := i) (p := cl i) hk
      rw [if_neg (nI_ge (by omega) (by omega)), if_neg (nI_ge (by omega) (by omega)), if_neg (nI_in (by omega) (by decide)), nI_clamp (by omega), at_c hc (by decide) _ (by omega), if_pos (by omega)]
      simp only [Option.bind_some]
      rw [g_after_c hg ha hk hp (by omega), g_ticks_r hg ha hk hp (by omega)]
      simp only [Option.bind_some]
      rw [outc ov_lt hk2 hb2, spotc ov_lt hk2 hb2, nI_1]
      have ho : g_ov w h rl ki ro a k i (cl i) = 0 ∨ g_ov w h rl ki ro a k i (cl i) = 1 ∨ g_ov w h rl ki ro a k i (cl i) = 2 := by
        have := ov_lt (w := w) (h := h) (rl := rl) (ki := ki) (ro := ro) (a := a) (k := k) (t := i) (p := cl i); omega
      rcases ho with ho | ho | ho
      · rw [ho, if_neg (show ¬ nI 0 = 1 by decide), if_neg (show ¬ nI 0 = 2 by decide), if_neg (show ¬ nI 0 = 1 by decide), if_neg (show ¬ nI 0 = 2 by decide)]
        exact ih (i + 1) _ _ _ _ _ (g_to_b hg ha) hk2 (by omega) (by omega)
      · rw [ho, if_pos (show nI 1 = 1 by decide), if_pos (show nI 1 = 1 by decide)]
        exact ⟨3, _, _, _, rfl, rfl⟩
      · rw [ho, if_neg (show ¬ nI 2 = 1 by decide), if_pos (show nI 2 = 2 by decide), if_neg (show ¬ nI 2 = 1 by decide), if_pos (show nI 2 = 2 by decide)]
        by_cases q : cn ≤ i + 1
        · have e1 : cn = i + 1 := by omega
          rw [if_pos (nI_le q (by omega)), if_pos (nI_le q (by omega)), ← e1]
          by_cases q2 : x1 = nI cn
          · rw [if_pos q2, if_pos q2.symm]; exact ⟨0, _, _, _, rfl, rfl⟩
          · rw [if_neg q2, if_neg (show ¬ nI cn = x1 from fun h => q2 h.symm)]; exact ⟨1, _, _, _, rfl, rfl⟩
        · rw [if_neg (nI_ge (by omega) (by omega)), if_neg (nI_ge (by omega) (by omega))]
          exact ⟨2, _, _, _, rfl, rfl⟩
theorem b_prove {F : Nat} (hF : 10000000 ≤ F) {w h rl : Nat} {ki ro : Nat → Nat} (hg : g_ok w h rl ki ro) {st : Nat} (hst : g_b w h st) {cn : Nat} (hc : cn ≤ 400) {cl : Nat → Nat} (hcl : ∀ j, cl j < 5) (x1 c1 c2 c3 : Int32) :
    ∃ r d1 d2 d3, m_X7_prove F (nI w) (nI h) (nI rl) (nI st) (fun j => nI (ki j)) (fun j => nI (ro j)) (nI cn) (fun j => nI (cl j)) x1 = some r ∧
      m_X8_prove F (nI w) (nI h) (nI rl) (nI st) (nI cn) (fun j => nI (ki j)) (fun j => nI (ro j)) (fun j => nI (cl j)) x1 c1 c2 c3 = some (r, d1, d2, d3) := by
  obtain ⟨r, d1, d2, d3, h1, h2⟩ := prove_l (F := F) hg st hc hcl x1 F 0 st 0 c1 c2 c3 hst (by omega) (by omega) (by omega)
  refine ⟨r, d1, d2, d3, ?_, h2⟩
  unfold m_X7_prove m_X0_startSpot
  refine Eq.trans ?_ h1
  congr 1
  rw [Nat.mul_zero, Nat.zero_add]
