/-! could -/
theorem nx_d {w h rl sn : Nat} {ki ro sc sa sb : Nat → Nat} (hg : g_ok w h rl ki ro) (hs : sn ≤ 5) {t y p : Nat} (hyb : g_b w h (y / 48)) (hyn : y % 6 ≤ sn) :
    nx w h rl sn ki ro sc sa sb t y p < 3072 ∧ nx w h rl sn ki ro sc sa sb t y p / 48 = g_to w h ki (y / 48) (y / 6 % 8) p ∧ nx w h rl sn ki ro sc sa sb t y p / 6 % 8 = g_kk w h rl ki ro (y / 48) (y / 6 % 8) t p ∧ nx w h rl sn ki ro sc sa sb t y p % 6 = nv w h sn ki sc sa sb t y p ∧ nv w h sn ki sc sa sb t y p ≤ sn := by
  have hbt := g_b_lt hg (g_to_b (k := y / 6 % 8) (p := p) hg hyb)
  have hkk := kk_lt hg (a := y / 48) (k := y / 6 % 8) (t := t) (p := p) (by omega)
  have hgu : nv w h sn ki sc sa sb t y p ≤ sn := gs_ub hyn (Nat.le_refl _)
  have e : nx w h rl sn ki ro sc sa sb t y p = 48 * g_to w h ki (y / 48) (y / 6 % 8) p + 6 * g_kk w h rl ki ro (y / 48) (y / 6 % 8) t p + nv w h sn ki sc sa sb t y p := rfl
  obtain ⟨a, b, c⟩ := x48 (c := g_to w h ki (y / 48) (y / 6 % 8) p) hkk (show nv w h sn ki sc sa sb t y p < 6 by omega)
  rw [e]
  exact ⟨by omega, a, b, c, hgu⟩
theorem rest_r {F : Nat} (hF : 10000000 ≤ F) {w h rl : Nat} {ki ro : Nat → Nat} (hg : g_ok w h rl ki ro) {st sn : Nat} {sc sa sb : Nat → Nat} (hs : sn ≤ 5) (hsc : ∀ j, sc j < 64) (hsa : ∀ j, sa j ≤ 200) (hsb : ∀ j, sb j ≤ 200) {b : Nat} (hb : b ≤ 5) : ∀ (m t : Nat) (d1 d2 d3 : Int32) (N X : Nat → Int32), t ≤ 200 → 200 - t < m → (∀ y, y < 3072 → N y ≠ 0 → g_b w h (y / 48) ∧ y % 6 ≤ sn ∧ y % 6 ≤ b) → (b = sn ∨ ∀ y, y < 3072 → N y ≠ 0 → ¬ (y % 6 < sn ∧ t < sb (y % 6))) →
    ∃ (e1 e2 e3 : Int32) (N' X' : Nat → Int32), m_X8_could_b55 F (nI w) (nI h) (nI rl) (nI st) (nI sn) (fun j => nI (ki j)) (fun j => nI (ro j)) (fun j => nI (sc j)) (fun j => nI (sa j)) (fun j => nI (sb j)) m d1 d2 d3 N X (nI b) (nI t) = some (nI b, e1, e2, e3, N', X') := by
  intro m
  induction m with
  | zero => intro t d1 d2 d3 N X _ h; omega
  | succ m ih =>
    intro t d1 d2 d3 N X ht hm hN hl
    by_cases e : t = 200
    · subst e
      exact ⟨d1, d2, d3, N, X, by rw [m_X8_could_b55, if_pos (by decide)]⟩
    · have hm1 : t + 1 ≤ 200 := by omega
      have hm2 : 200 - (t + 1) < m := by omega
      have ht2 : t < 200 := by omega
      obtain ⟨e1, e2, e3, N', X', b', g1, g2, g3, g4, g5, g6⟩ := tick_r (F := F) hF hg (st := st) hs hsc hsa hsb ht2 (fun y h1 h2 => ⟨(hN y h1 h2).1, (hN y h1 h2).2.1⟩) m d1 d2 d3 X hb
      have hstay : b ≠ sn → ∀ y p, y < 3072 → N y ≠ 0 → nv w h sn ki sc sa sb t y p = y % 6 := by
        intro hbs y p h1 h2
        false_or_by_contra
        rename_i hne
        have hmore := gs_more (sc := sc) (sa := sa) (sb := sb) (c := g_to w h ki (y / 48) (y / 6 % 8) p) (t := t + 1) (s := sn) (d := y % 6) hne
        have hk := hmore.2
        unfold gok at hk
        simp only [decide_eq_true_eq] at hk
        exact (hl.resolve_left hbs) y h1 h2 ⟨hmore.1, by omega⟩
      have hbb : b' = b := by
        rcases g6 with g6 | ⟨y, p, h1, h2, h3, h4, h5⟩
        · exact g6
        · have hny := hN y h1 h2
          have hd := nx_d (sc := sc) (sa := sa) (sb := sb) (t := t) (p := p) hg hs hny.1 hny.2.1
          by_cases q : b = sn
          · omega
          · have := hstay q y p h1 h2
            omega
      rw [hbb] at g2 g4 g5
      have hN' : ∀ x, x < 3072 → N' x ≠ 0 → (g_b w h (x / 48) ∧ x % 6 ≤ sn ∧ x % 6 ≤ b) ∧ (b ≠ sn → ¬ (x % 6 < sn ∧ t + 1 < sb (x % 6))) := by
        intro x hx h0
        obtain ⟨y, p, h1, h2, h3, h4, h5⟩ := (g3 x hx).mp h0
        have hny := hN y h1 h2
        obtain ⟨i1, i2, i3, i4, i5⟩ := nx_d (sc := sc) (sa := sa) (sb := sb) (t := t) (p := p) hg hs hny.1 hny.2.1
        rw [← h5] at i2 i3 i4
        have i6 := g5 y p h1 h2 h3 (by omega)
        refine ⟨⟨?_, by omega, by omega⟩, ?_⟩
        · rw [i2]; exact g_to_b hg hny.1
        · intro q r
          have := hstay q y p h1 h2
          rw [i4, this] at r
          exact (hl.resolve_left q) y h1 h2 ⟨r.1, by omega⟩
      obtain ⟨a1, a2, a3, N2, X2, k1⟩ := ih (t + 1) e1 e2 e3 N' X' hm1 hm2 (fun x h1 h2 => (hN' x h1 h2).1) (by
        by_cases q : b = sn
        · exact .inl q
        · exact .inr (fun x h1 h2 => (hN' x h1 h2).2 q))
      exact ⟨a1, a2, a3, N2, X2, g2.trans k1⟩
theorem both {F : Nat} (hF : 10000000 ≤ F) {w h rl : Nat} {ki ro : Nat → Nat} (hg : g_ok w h rl ki ro) {opn kyc : Nat → Int64} {gc : Int64} (hi : i_g w h ki opn kyc gc) {st sn : Nat} {sc sa sb : Nat → Nat} (hs : sn ≤ 5) (hsc : ∀ j, sc j < 64) (hsa : ∀ j, sa j ≤ 200) (hsb : ∀ j, sb j ≤ 200) : ∀ (m t : Nat) (H A : Nat → Int64) (mo fl : Nat) (d1 d2 d3 : Int32) (N X : Nat → Int32), t ≤ 200 → 200 - t < m → mo ≤ sn → fl ≤ 1 →
    (∀ x c, x < 48 → c < 64 → bL (A x) c → g_b w h c) →
    (∀ y, y < 3072 → N y ≠ 0 → g_b w h (y / 48) ∧ y % 6 ≤ sn ∧ y % 6 ≤ mo ∧ (t = 0 ∨ ki (y / 48) ≠ 8)) →
    (∀ d k c, d ≤ sn → k < 8 → c < 64 → bL (A (8 * d + k)) c → (t = 0 ∨ ki c ≠ 8) → N (48 * c + 6 * k + d) ≠ 0) →
    (∀ y, y < 3072 → N y ≠ 0 → y % 6 < sn → t < sb (y % 6) → bL (A (8 * (y % 6) + y / 6 % 8)) (y / 48)) →
    (fl = 0 → ∀ d k c, d ≤ 5 → k < 8 → c < 64 → ¬ bL (A (8 * d + k)) c) →
    ∃ (r : Int32) (H' A' : Nat → Int64) (e1 e2 e3 : Int32) (N' X' : Nat → Int32), m_X6_mostTogether_b32 F (nI sn) (fun j => nI (sc j)) (fun j => nI (sa j)) (fun j => nI (sb j)) gc (nI rl) (nI st) opn kyc (fun j => nI (ro j)) m H A (nI mo) (nI fl) (nI t) = some (r, H', A') ∧ m_X8_could_b55 F (nI w) (nI h) (nI rl) (nI st) (nI sn) (fun j => nI (ki j)) (fun j => nI (ro j)) (fun j => nI (sc j)) (fun j => nI (sa j)) (fun j => nI (sb j)) m d1 d2 d3 N X (nI mo) (nI t) = some (r, e1, e2, e3, N', X') := by
  intro m
  induction m with
  | zero => intro t H A mo fl d1 d2 d3 N X _ h; omega
  | succ m ih =>
    intro t H A mo fl d1 d2 d3 N X ht hm hmo hfl hA hN j1 j2 j3
    by_cases e : t = 200
    · subst e
      refine ⟨nI mo, H, A, d1, d2, d3, N, X, ?_, ?_⟩
      · rw [m_X6_mostTogether_b32, if_pos (by decide)]
      · rw [m_X8_could_b55, if_pos (by decide)]
    · have hm1 : t + 1 ≤ 200 := by omega
      have hm2 : 200 - (t + 1) < m := by omega
      have ht2 : t < 200 := by omega
      rw [m_X6_mostTogether_b32, if_neg (by rw [l_200]; exact nI_ge (by omega) (by decide))]
      rcases (by omega : fl = 0 ∨ fl = 1) with rfl | rfl
      · rw [if_pos (show nI 0 = 0 from rfl)]
        obtain ⟨e1, e2, e3, N', X', k1⟩ := rest_r (F := F) hF hg (st := st) hs hsc hsa hsb (b := mo) (by omega) (m + 1) t d1 d2 d3 N X ht hm (fun y h1 h2 => ⟨(hN y h1 h2).1, (hN y h1 h2).2.1, (hN y h1 h2).2.2.1⟩) (.inr (fun y h1 h2 h3 => j3 rfl (y % 6) (y / 6 % 8) (y / 48) (by omega) (by omega) (by omega) (j2 y h1 h2 h3.1 h3.2)))
        exact ⟨nI mo, H, A, e1, e2, e3, N', X', rfl, k1⟩
      · rw [if_neg (show ¬ nI 1 = 0 by decide)]
        by_cases q5 : sn ≤ mo
        · rw [if_pos (nI_le q5 (by omega))]
          obtain ⟨e1, e2, e3, N', X', k1⟩ := rest_r (F := F) hF hg (st := st) hs hsc hsa hsb (b := mo) (by omega) (m + 1) t d1 d2 d3 N X ht hm (fun y h1 h2 => ⟨(hN y h1 h2).1, (hN y h1 h2).2.1, (hN y h1 h2).2.2.1⟩) (.inl (by omega))
          exact ⟨nI mo, H, A, e1, e2, e3, N', X', rfl, k1⟩
        · rw [if_neg (nI_ge (by omega) (by omega)), fill_L _ _ (by decide) (by omega), Option.bind_some]
          -- the class goes on
          have hgo : ∃ (A1 : Nat → Int64) (f' : Nat), f' ≤ 1 ∧ m_X6_goOn F (nI sn) (fun j => nI (sb j)) A gc (nI rl) opn kyc (fun j => nI (ro j)) (nI t) (fun j => if j < 48 then 0 else H j) = some (nI f', A1) ∧ (f' = 0 → ∀ x, x < 48 → A1 x = 0) ∧ ∀ d'' k'' c', d'' ≤ 5 → k'' < 8 → c' < 64 → (bL (A1 (8 * d'' + k'')) c' ↔ ∃ k' c p, d'' < sn ∧ t < sb d'' ∧ k' < 8 ∧ c < 64 ∧ p < 5 ∧ bL (A (8 * d'' + k')) c ∧ (t = 0 ∨ ki c ≠ 8) ∧ c' = g_to w h ki c k' p ∧ g_ct rl ro c c' t = false ∧ k'' = g_ky (ki c') k') := by
            have core : ∀ ov : Int64, (∀ c, c < 64 → (¬ bL ov c ↔ (t = 0 ∨ ki c ≠ 8))) → ∃ (A1 : Nat → Int64) (f' : Nat), f' ≤ 1 ∧ m_X6_goOn_b19 F (nI sn) (fun j => nI (sb j)) A gc (nI rl) opn kyc (fun j => nI (ro j)) (nI t) F (fun j => if j < 48 then 0 else H j) ov (nI 0) (nI 0) = some (nI f', A1) ∧ (f' = 0 → ∀ x, x < 48 → A1 x = 0) ∧ ∀ d'' k'' c', d'' ≤ 5 → k'' < 8 → c' < 64 → (bL (A1 (8 * d'' + k'')) c' ↔ ∃ k' c p, d'' < sn ∧ t < sb d'' ∧ k' < 8 ∧ c < 64 ∧ p < 5 ∧ bL (A (8 * d'' + k')) c ∧ (t = 0 ∨ ki c ≠ 8) ∧ c' = g_to w h ki c k' p ∧ g_ct rl ro c c' t = false ∧ k'' = g_ky (ki c') k') := by
              intro ov hov
              obtain ⟨A1, f', a0, a1, a2, a3⟩ := go19 (F := F) hF hg hi hs hsb ht hA ov F 0 (fun j => if j < 48 then 0 else H j) 0 (by omega) (by omega) (by omega)
              refine ⟨A1, f', a0, a1, ?_, ?_⟩
              · intro hf x hx
                rw [(a2 hf).2 x, if_pos hx]
              · intro d'' k'' c' h1 h2 h3
                rw [a3 _ c' h3, if_pos (by omega)]
                constructor
                · rintro (z | ⟨d', k', c, p, z1, z2, z3, z4, z5, z6, z7, z8, z9, z10, z11⟩)
                  · exact absurd z (bL_0 c')
                  · have hky := g_ky_lt (ki c') (by have := hg.2.2.2.1 c'; omega) k' z4
                    have ed : d' = d'' := by omega
                    have ek : k'' = g_ky (ki c') k' := by omega
                    subst ed
                    exact ⟨k', c, p, z2, z3, z4, z5, z6, z7, (hov c z5).mp z8, z9, z10, ek⟩
                · rintro ⟨k', c, p, z2, z3, z4, z5, z6, z7, z8, z9, z10, z11⟩
                  exact .inr ⟨d'', k', c, p, by omega, z2, z3, z4, z5, z6, z7, (hov c z5).mpr z8, z9, z10, by rw [z11]⟩
            unfold m_X6_goOn
            by_cases t0 : t = 0
            · rw [if_pos (show nI t = 0 by rw [t0]; rfl)]
              exact core 0 (fun c _ => ⟨fun _ => .inl t0, fun _ => bL_0 c⟩)
            · rw [if_neg (nI_ne0 (by omega) (by omega))]
              refine core gc (fun c hc => ?_)
              rw [hi.2.2 c hc]
              exact ⟨fun z => .inr z, fun z => z.resolve_left t0⟩
          obtain ⟨A1, f', a0, a1, a2, a3⟩ := hgo
          rw [a1, Option.bind_some]
          dsimp only
          rw [nI_1]
          obtain ⟨A2, mo', b0, b1, b2, b3, b4, b5⟩ := cnt_c (F := F) hF hs hsc hsa hsb (t := t + 1) (by omega) A1 (mo0 := mo) (by omega)
          rw [b1, Option.bind_some]
          dsimp only
          -- the reference goes on
          obtain ⟨e1, e2, e3, N', X', b', g1, g2, g3, g4, g5, g6⟩ := tick_r (F := F) hF hg (st := st) hs hsc hsa hsb ht2 (fun y h1 h2 => ⟨(hN y h1 h2).1, (hN y h1 h2).2.1⟩) m d1 d2 d3 X (show mo ≤ 5 by omega)
          -- what the class has is a tick of the reference
          have real : ∀ d k'' c', d ≤ 5 → k'' < 8 → c' < 64 → bL (A1 (8 * d + k'')) c' → ∃ y p, y < 3072 ∧ N y ≠ 0 ∧ p < 5 ∧ yo w h rl ki ro t y p ≠ 1 ∧ y % 6 = d ∧ c' = g_to w h ki (y / 48) (y / 6 % 8) p ∧ k'' = g_kk w h rl ki ro (y / 48) (y / 6 % 8) t p ∧ (ki c' ≠ 8 → yo w h rl ki ro t y p = 0) := by
            intro d k'' c' h1 h2 h3 h4
            obtain ⟨k', c, p, z2, z3, z4, z5, z6, z7, z8, z9, z10, z11⟩ := (a3 d k'' c' h1 h2 h3).mp h4
            obtain ⟨x1, x2, x3⟩ := x48 (c := c) (k := k') (n := d) z4 (by omega)
            refine ⟨48 * c + 6 * k' + d, p, by omega, j1 d k' c (by omega) z4 z5 z7 z8, z6, ?_, x3, ?_, ?_, ?_⟩
            · unfold yo g_ov
              rw [x1, x2, ← z9, z10]
              simp only [Bool.false_eq_true, if_false]
              split <;> omega
            · rw [x1, x2]; exact z9
            · unfold g_kk
              rw [x1, x2, ← z9, z10, z11]
              simp
            · intro h8
              unfold yo g_ov
              rw [x1, x2, ← z9, z10]
              simp only [Bool.false_eq_true, if_false]
              rw [if_neg h8]
          -- a tick of the reference from a runner that can still do its next split is the class's
          have live : ∀ y p, y < 3072 → N y ≠ 0 → p < 5 → yo w h rl ki ro t y p ≠ 1 → y % 6 < sn → t < sb (y % 6) → bL (A1 (8 * (y % 6) + g_kk w h rl ki ro (y / 48) (y / 6 % 8) t p)) (g_to w h ki (y / 48) (y / 6 % 8) p) := by
            intro y p h1 h2 h3 h4 h5 h6
            have hny := hN y h1 h2
            have hbt := g_b_lt hg (g_to_b (k := y / 6 % 8) (p := p) hg hny.1)
            have hkk := kk_lt hg (a := y / 48) (k := y / 6 % 8) (t := t) (p := p) (by omega)
            have hct : g_ct rl ro (y / 48) (g_to w h ki (y / 48) (y / 6 % 8) p) t = false := by
              cases q : g_ct rl ro (y / 48) (g_to w h ki (y / 48) (y / 6 % 8) p) t
              · rfl
              · exact absurd (by unfold yo g_ov; rw [q]; rfl) h4
            rw [a3 _ _ _ (by omega) hkk hbt]
            refine ⟨y / 6 % 8, y / 48, p, h5, h6, by omega, by omega, h3, j2 y h1 h2 h5 h6, hny.2.2.2, rfl, hct, ?_⟩
            unfold g_kk; rw [hct]; simp
          have more : ∀ y p, y < 3072 → N y ≠ 0 → nv w h sn ki sc sa sb t y p ≠ y % 6 → y % 6 < sn ∧ t < sb (y % 6) := by
            intro y p h1 h2 hne
            have hmore := gs_more (sc := sc) (sa := sa) (sb := sb) (c := g_to w h ki (y / 48) (y / 6 % 8) p) (t := t + 1) (s := sn) (d := y % 6) hne
            have hk := hmore.2
            unfold gok at hk
            simp only [decide_eq_true_eq] at hk
            exact ⟨hmore.1, by omega⟩
          have hbm : b' = mo' := by
            apply Nat.le_antisymm
            · rcases g6 with g6 | ⟨y, p, h1, h2, h3, h4, h5⟩
              · omega
              · have hny := hN y h1 h2
                by_cases q : nv w h sn ki sc sa sb t y p = y % 6
                · omega
                · obtain ⟨l1, l2⟩ := more y p h1 h2 q
                  have hbt := g_b_lt hg (g_to_b (k := y / 6 % 8) (p := p) hg hny.1)
                  have hkk := kk_lt hg (a := y / 48) (k := y / 6 % 8) (t := t) (p := p) (by omega)
                  rw [h5]
                  exact b4 (y % 6) _ _ (by omega) hkk hbt (live y p h1 h2 h3 h4 l1 l2) q
            · rcases b5 with b5 | ⟨d, k, c, h1, h2, h3, h4, h5⟩
              · omega
              · obtain ⟨y, p, z1, z2, z3, z4, z5, z6, z7, z8⟩ := real d k c h1 h2 h3 h4
                have := g5 y p z1 z2 z3 z4
                have e9 : nv w h sn ki sc sa sb t y p = gs sc sa sb c (t + 1) sn d := by unfold nv; rw [← z6, z5]
                omega
          rw [hbm] at g2 g4 g5
          have hmosn : mo' ≤ sn := by
            rcases b5 with b5 | ⟨d, k, c, h1, h2, h3, h4, h5⟩
            · omega
            · obtain ⟨k', c0, p, z2, z3⟩ := (a3 d k c h1 h2 h3).mp h4
              have := gs_ub (sc := sc) (sa := sa) (sb := sb) (c := c) (t := t + 1) (d := d) (m := sn) (by omega) (s := sn) (Nat.le_refl _)
              omega
          have key := ih (t + 1) A A2 mo' f' e1 e2 e3 N' X' hm1 hm2 hmosn a0
          have hA2 : ∀ x c, x < 48 → c < 64 → bL (A2 x) c → g_b w h c := by
            intro x c hx hc hb
            rw [show x = 8 * (x / 8) + x % 8 by omega, b2 (x / 8) (x % 8) c (by omega) (by omega) hc] at hb
            obtain ⟨d, h1, h2, h3⟩ := hb
            obtain ⟨k', c0, p, z2, z3, z4, z5, z6, z7, z8, z9, z10, z11⟩ := (a3 d _ c h1 (by omega) hc).mp h2
            rw [z9]
            exact g_to_b hg (hA _ c0 (by omega) z5 z7)
          have hN2 : ∀ y, y < 3072 → N' y ≠ 0 → g_b w h (y / 48) ∧ y % 6 ≤ sn ∧ y % 6 ≤ mo' ∧ (t + 1 = 0 ∨ ki (y / 48) ≠ 8) := by
            intro x hx h0
            obtain ⟨y, p, h1, h2, h3, h4, h5⟩ := (g3 x hx).mp h0
            have hny := hN y h1 h2
            obtain ⟨i1, i2, i3, i4, i5⟩ := nx_d (sc := sc) (sa := sa) (sb := sb) (t := t) (p := p) hg hs hny.1 hny.2.1
            rw [← h5] at i2 i3 i4
            have i6 := g5 y p h1 h2 h3 (by omega)
            refine ⟨?_, by omega, by omega, .inr ?_⟩
            · rw [i2]; exact g_to_b hg hny.1
            · rw [i2]
              intro h8
              unfold yo g_ov at h4
              rw [if_pos h8] at h4
              split at h4 <;> omega
          have hj1 : ∀ d k c, d ≤ sn → k < 8 → c < 64 → bL (A2 (8 * d + k)) c → (t + 1 = 0 ∨ ki c ≠ 8) → N' (48 * c + 6 * k + d) ≠ 0 := by
            intro e k c h1 h2 h3 h4 h5
            obtain ⟨d, z1, z2, z3⟩ := (b2 e k c (by omega) h2 h3).mp h4
            obtain ⟨y, p, y1, y2, y3, y4, y5, y6, y7, y8⟩ := real d k c z1 h2 h3 z2
            rw [g3 _ (by omega)]
            refine ⟨y, p, y1, y2, y3, y8 (h5.resolve_left (by omega)), ?_⟩
            unfold nx
            rw [← y6, ← y7, y5, z3]
          have hj2 : ∀ y, y < 3072 → N' y ≠ 0 → y % 6 < sn → t + 1 < sb (y % 6) → bL (A2 (8 * (y % 6) + y / 6 % 8)) (y / 48) := by
            intro x hx h0 hl1 hl2
            obtain ⟨y, p, h1, h2, h3, h4, h5⟩ := (g3 x hx).mp h0
            have hny := hN y h1 h2
            obtain ⟨i1, i2, i3, i4, i5⟩ := nx_d (sc := sc) (sa := sa) (sb := sb) (t := t) (p := p) hg hs hny.1 hny.2.1
            rw [← h5] at i2 i3 i4
            have hlv : y % 6 < sn ∧ t < sb (y % 6) := by
              by_cases q : nv w h sn ki sc sa sb t y p = y % 6
              · rw [i4, q] at hl1 hl2; exact ⟨hl1, by omega⟩
              · exact more y p h1 h2 q
            have hl := live y p h1 h2 h3 (by omega) hlv.1 hlv.2
            have hbt := g_b_lt hg (g_to_b (k := y / 6 % 8) (p := p) hg hny.1)
            have hkk := kk_lt hg (a := y / 48) (k := y / 6 % 8) (t := t) (p := p) (by omega)
            rw [i2, i3, i4, b2 _ _ _ (by omega) hkk hbt]
            exact ⟨y % 6, by omega, hl, rfl⟩
          have hj3 : f' = 0 → ∀ d k c, d ≤ 5 → k < 8 → c < 64 → ¬ bL (A2 (8 * d + k)) c := by
            intro hf e k c h1 h2 h3 h4
            obtain ⟨d, z1, z2, z3⟩ := (b2 e k c h1 h2 h3).mp h4
            rw [a2 hf _ (by omega)] at z2
            exact bL_0 c z2
          obtain ⟨r, H', A', c1, c2, c3, N3, X3, k1, k2⟩ := key hA2 hN2 hj1 hj2 hj3
          exact ⟨r, H', A', c1, c2, c3, N3, X3, k1, g2.trans k2⟩
theorem cr7 {F : Nat} (a b c d e : Int32) (f1 f2 f3 f4 f5 : Nat → Int32) (d1 d2 d3 : Int32) (X : Nat → Int32) : ∀ (m x : Nat) (N : Nat → Int32), x ≤ 3072 → 3072 - x < m → (∀ y, y < x → N y = 0) →
    ∃ N', m_X8_could_b7 F a b c d e f1 f2 f3 f4 f5 m d1 d2 d3 N X (nI x) = m_X8_could_b27 F a b c d e f1 f2 f3 f4 f5 d1 d2 d3 N' X ∧ ∀ y, y < 3072 → N' y = 0 := by
  intro m
  induction m with
  | zero => intro x N _ h; omega
  | succ m ih =>
    intro x N hx hm hN
    unfold m_X8_could_b7
    by_cases q : x = 3072
    · subst q
      exact ⟨N, by rw [if_pos (by decide)], hN⟩
    · rw [if_neg (by rw [l_3072]; exact nI_ge (by omega) (by decide)), if_neg (nI_in (by omega) (by decide)), nI_clamp (by omega), nar0, nI_1]
      refine ih (x + 1) _ (by omega) (by omega) ?_
      intro y hy
      by_cases w : y = x
      · rw [w, pk_us]
      · rw [pk_un w]; exact hN y (by omega)
theorem b_could {F : Nat} (hF : 10000000 ≤ F) {w h rl : Nat} {ki ro : Nat → Nat} (hg : g_ok w h rl ki ro) {opn kyc : Nat → Int64} {gc : Int64} (hi : i_g w h ki opn kyc gc) {st sn : Nat} (hst : g_b w h st) {sc sa sb : Nat → Nat} (hs : sn ≤ 5) (hsc : ∀ j, sc j < 64) (hsa : ∀ j, sa j ≤ 200) (hsb : ∀ j, sb j ≤ 200) (H A : Nat → Int64) (d1 d2 d3 : Int32) (N X : Nat → Int32) :
    ∃ (r : Int32) (H' A' : Nat → Int64) (e1 e2 e3 : Int32) (N' X' : Nat → Int32),
      m_X7_could F gc (nI rl) (nI st) opn kyc (fun j => nI (ro j)) (nI sn) (fun j => nI (sc j)) (fun j => nI (sa j)) (fun j => nI (sb j)) H A = some (r, H', A') ∧
      m_X8_could F (nI w) (nI h) (nI rl) (nI st) (nI sn) (fun j => nI (ki j)) (fun j => nI (ro j)) (fun j => nI (sc j)) (fun j => nI (sa j)) (fun j => nI (sb j)) d1 d2 d3 N X = some (r, e1, e2, e3, N', X') := by
  have hst64 := g_b_lt hg hst
  -- the class begins
  have hA0 : ∀ d k c, d ≤ 5 → k < 8 → c < 64 → (bL (vp_updL (fun j => if j < 48 then 0 else A j) 0 ((1 : Int64) <<< ((nI st).toInt64 &&& 63)) (8 * d + k)) c ↔ (d = 0 ∧ k = 0 ∧ c = st)) := by
    intro d k c h1 h2 h3
    by_cases q : 8 * d + k = 0
    · rw [q, pk_uLs, bL_one hst64]
      exact ⟨fun z => ⟨by omega, by omega, z⟩, fun z => z.2.2⟩
    · rw [pk_uLn q, if_pos (by omega)]
      exact ⟨fun z => absurd z (bL_0 c), fun z => by omega⟩
  obtain ⟨A1, mo, b0, b1, b2, b3, b4, b5⟩ := cnt_c (F := F) hF hs hsc hsa hsb (t := 0) (by omega) (vp_updL (fun j => if j < 48 then 0 else A j) 0 ((1 : Int64) <<< ((nI st).toInt64 &&& 63))) (mo0 := 0) (by omega)
  have hmo : mo = gs sc sa sb st 0 sn 0 := by
    apply Nat.le_antisymm
    · rcases b5 with b5 | ⟨d, k, c, h1, h2, h3, h4, h5⟩
      · omega
      · obtain ⟨rfl, rfl, rfl⟩ := (hA0 d k c h1 h2 h3).mp h4
        exact h5
    · by_cases q : gs sc sa sb st 0 sn 0 = 0
      · omega
      · exact b4 0 0 st (by omega) (by omega) hst64 ((hA0 0 0 st (by omega) (by omega) hst64).mpr ⟨rfl, rfl, rfl⟩) q
  have hmosn : mo ≤ sn := by rw [hmo]; exact gs_ub (by omega) (Nat.le_refl _)
  have hA1 : ∀ e k c, e ≤ 5 → k < 8 → c < 64 → (bL (A1 (8 * e + k)) c ↔ (e = mo ∧ k = 0 ∧ c = st)) := by
    intro e k c h1 h2 h3
    rw [b2 e k c h1 h2 h3]
    constructor
    · rintro ⟨d, z1, z2, z3⟩
      obtain ⟨rfl, rfl, rfl⟩ := (hA0 d k c z1 h2 h3).mp z2
      exact ⟨by rw [hmo]; exact z3.symm, rfl, rfl⟩
    · rintro ⟨rfl, rfl, rfl⟩
      exact ⟨0, by omega, (hA0 0 0 _ (by omega) (by omega) hst64).mpr ⟨rfl, rfl, rfl⟩, hmo.symm⟩
  -- the reference begins
  obtain ⟨N0, n1, n2⟩ := cr7 (F := F) (nI w) (nI h) (nI rl) (nI st) (nI sn) (fun j => nI (ki j)) (fun j => nI (ro j)) (fun j => nI (sc j)) (fun j => nI (sa j)) (fun j => nI (sb j)) d1 d2 d3 X F 0 N (by omega) (by omega) (fun y hy => by omega)
  have hN1 : ∀ y, y < 3072 → (upd N0 (48 * st + mo) 1 y ≠ 0 ↔ y = 48 * st + mo) := by
    intro y hy
    by_cases q : y = 48 * st + mo
    · rw [q, pk_us]; exact ⟨fun _ => rfl, fun _ => by decide⟩
    · rw [pk_un q, n2 y hy]; exact ⟨fun z => absurd rfl z, fun z => absurd z q⟩
  obtain ⟨r, H', A', e1, e2, e3, N', X', k1, k2⟩ := both (F := F) hF hg hi (st := st) hs hsc hsa hsb F 0 H A1 mo 1 d1 d2 d3 (upd N0 (48 * st + mo) 1) X (by omega) (by omega) hmosn (by omega) (by
      intro x c hx hc hb
      rw [show x = 8 * (x / 8) + x % 8 by omega, hA1 _ _ c (by omega) (by omega) hc] at hb
      rw [hb.2.2]; exact hst) (by
      intro y hy h0
      have := (hN1 y hy).mp h0
      refine ⟨?_, by omega, by omega, .inl rfl⟩
      rw [show y / 48 = st by omega]; exact hst) (by
      intro d k c h1 h2 h3 h4 _
      obtain ⟨z1, z2, z3⟩ := (hA1 d k c (by omega) h2 h3).mp h4
      rw [hN1 _ (by omega)]; omega) (by
      intro y hy h0 h1 h2
      have := (hN1 y hy).mp h0
      rw [hA1 _ _ _ (by omega) (by omega) (by omega)]
      omega) (fun z => by omega)
  refine ⟨r, H', A', e1, e2, e3, N', X', ?_, ?_⟩
  · unfold m_X7_could m_X6_mostTogether
    have e0 : (0 : Int32).toNatClampNeg = 0 := rfl
    have b1' : m_X6_countDone F (nI sn) (fun j => nI (sc j)) (fun j => nI (sa j)) (fun j => nI (sb j)) 0 0 (vp_updL (fun j => if j < 48 then 0 else A j) 0 ((1 : Int64) <<< ((nI st).toInt64 &&& 63))) = some (nI mo, A1) := b1
    rw [fill_L _ _ (by decide) (by omega), Option.bind_some, e0, b1', Option.bind_some]
    have k1' : m_X6_mostTogether_b32 F (nI sn) (fun j => nI (sc j)) (fun j => nI (sa j)) (fun j => nI (sb j)) gc (nI rl) (nI st) opn kyc (fun j => nI (ro j)) F H A1 (nI mo) 1 0 = some (r, H', A') := k1
    dsimp only
    rw [k1', Option.bind_some]
  · unfold m_X8_could
    have n1' : m_X8_could_b7 F (nI w) (nI h) (nI rl) (nI st) (nI sn) (fun j => nI (ki j)) (fun j => nI (ro j)) (fun j => nI (sc j)) (fun j => nI (sa j)) (fun j => nI (sb j)) F d1 d2 d3 N X 0 = m_X8_could_b27 F (nI w) (nI h) (nI rl) (nI st) (nI sn) (fun j => nI (ki j)) (fun j => nI (ro j)) (fun j => nI (sc j)) (fun j => nI (sa j)) (fun j => nI (sb j)) d1 d2 d3 N0 X := n1
    rw [n1']
    unfold m_X8_could_b27
    have hso := so_r (F := F) (sn := sn) (c := st) (t := 0) hs hsc hsa hsb hst64 (by omega) (nI 0) F 0 (by omega) (by omega)
    have hso' : m_X8_so F (nI sn) (fun j => nI (sc j)) (fun j => nI (sa j)) (fun j => nI (sb j)) 0 (nI st) 0 = some (nI mo) := by rw [hmo]; exact hso
    have eix : (48 : Int32) * nI st + nI mo = nI (48 * st + mo) := by rw [l_48, pk_mul, nI_add]
    rw [hso', Option.bind_some, eix, if_neg (nI_in (by omega) (by decide)), nI_clamp (by omega), nar1]
    exact k2
