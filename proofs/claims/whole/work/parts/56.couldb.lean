/-! could: the class's tick -/
theorem go31 {F : Nat} (hF : 10000000 ≤ F) {w h rl : Nat} {ki ro : Nat → Nat} (hg : g_ok w h rl ki ro) {opn kyc : Nat → Int64} {gc : Int64} (hi : i_g w h ki opn kyc gc) {sn t : Nat} {sb : Nat → Nat} (hs : sn ≤ 5) (hsb : ∀ j, sb j ≤ 200) (ht : t ≤ 200) {H : Nat → Int64} (hH : ∀ x c, x < 48 → c < 64 → bL (H x) c → g_b w h c) (ov : Int64) {d : Nat} (hd : d < sn) (k19 : (Nat → Int64) → Int64 → Int32 → Int32 → Option (Int32 × (Nat → Int64))) : ∀ (m k : Nat) (A : Nat → Int64) (f : Nat), f ≤ 1 → k ≤ 8 → 8 - k < m →
    ∃ (A' : Nat → Int64) (f' : Nat), f' ≤ 1 ∧ m_X6_goOn_b31 F (nI sn) (fun j => nI (sb j)) H gc (nI rl) opn kyc (fun j => nI (ro j)) (nI t) k19 m A ov (nI f) (nI d) (nI k) = k19 A' ov (nI f') (nI (d + 1)) ∧ (f' = 0 → f = 0 ∧ ∀ x, A' x = A x) ∧
      ∀ x c', c' < 64 → (bL (A' x) c' ↔ (bL (A x) c' ∨ (t < sb d ∧ ∃ k' c p, k ≤ k' ∧ k' < 8 ∧ c < 64 ∧ p < 5 ∧ bL (H (8 * d + k')) c ∧ ¬ bL ov c ∧ c' = g_to w h ki c k' p ∧ g_ct rl ro c c' t = false ∧ x = 8 * d + g_ky (ki c') k'))) := by
  have hsd := hsb d
  intro m
  induction m with
  | zero => intro k A f _ _ h; omega
  | succ m ih =>
    intro k A f hf hk hm
    unfold m_X6_goOn_b31
    by_cases e : k = 8
    · refine ⟨A, f, hf, ?_, fun h => ⟨h, fun _ => rfl⟩, fun x c' _ => ⟨.inl, fun h => h.elim id (fun ⟨_, k', _, _, h1, h2, _⟩ => by omega)⟩⟩
      rw [if_pos (by rw [e]; decide), nI_1]
    · rw [if_neg (by rw [l_8]; exact nI_ge (by omega) (by decide)), if_neg (nI_in (by omega) (by decide)), nI_clamp (n := d) (by omega)]
      by_cases hl : sb d ≤ t
      · refine ⟨A, f, hf, ?_, fun h => ⟨h, fun _ => rfl⟩, fun x c' _ => ⟨.inl, fun h => h.elim id (fun h => by omega)⟩⟩
        rw [if_pos (nI_le hl (by omega)), nI_1]
      · have ix : nI d * (8 : Int32) + nI k = nI (8 * d + k) := by rw [l_8, pk_mul, nI_add]; congr 1; omega
        rw [if_neg (nI_ge (by omega) (by omega)), ix, if_neg (nI_in (by omega) (by decide)), nI_clamp (n := 8 * d + k) (by omega), nI_1]
        have hfb : ∀ c, c < 64 → (bL (H (8 * d + k) &&& (ov ^^^ (-1))) c ↔ (bL (H (8 * d + k)) c ∧ ¬ bL ov c)) := fun c hc => by rw [bL_and, bL_not _ hc]
        by_cases hz : H (8 * d + k) &&& (ov ^^^ (-1)) = 0
        · rw [if_pos ((lg0 _).mpr hz)]
          obtain ⟨A', f', g0, g1, g2, g3⟩ := ih (k + 1) A f hf (by omega) (by omega)
          refine ⟨A', f', g0, g1, g2, fun x c' hc' => ?_⟩
          rw [g3 x c' hc']
          constructor
          · rintro (h | ⟨h1, k', c, p, h2, h3⟩)
            · exact .inl h
            · exact .inr ⟨h1, k', c, p, by omega, h3⟩
          · rintro (h | ⟨h1, k', c, p, h2, h3, h4, h5, h6, h7, h8⟩)
            · exact .inl h
            · by_cases q : k' = k
              · subst q
                exact absurd ((hfb c h4).mpr ⟨h6, h7⟩) (bL_z.mp hz c h4)
              · exact .inr ⟨h1, k', c, p, by omega, h3, h4, h5, h6, h7, h8⟩
        · rw [if_neg (mt (lg0 _).mp hz)]
          obtain ⟨T, t1, t2⟩ := after_set (k := k) (t := t) hg hi (fm := H (8 * d + k) &&& (ov ^^^ (-1))) (fun c hc hb => hH (8 * d + k) c (by omega) hc ((hfb c hc).mp hb).1) (by omega) (by omega)
          obtain ⟨A1, a1, a2⟩ := arrive_c (F := F) hi hg.2.2.2.1 hF (d := d) (k := k) (by omega) (by omega) T A
          rw [t1, Option.bind_some, a1, Option.bind_some]
          obtain ⟨A', f', g0, g1, g2, g3⟩ := ih (k + 1) A1 1 (by omega) (by omega) (by omega)
          refine ⟨A', f', g0, g1, fun h => by have := (g2 h).1; omega, fun x c' hc' => ?_⟩
          rw [g3 x c' hc', a2 x c' hc', t2 c' hc']
          constructor
          · rintro ((h | ⟨⟨c, p, h1, h2, h3, h4, h5⟩, h6⟩) | ⟨h1, k', c, p, h2, h3⟩)
            · exact .inl h
            · have := (hfb c h1).mp h3
              exact .inr ⟨by omega, k, c, p, Nat.le_refl _, by omega, h1, h2, this.1, this.2, h4, h5, h6⟩
            · exact .inr ⟨h1, k', c, p, by omega, h3⟩
          · rintro (h | ⟨h1, k', c, p, h2, h3, h4, h5, h6, h7, h8, h9, h10⟩)
            · exact .inl (.inl h)
            · by_cases q : k' = k
              · subst q
                exact .inl (.inr ⟨⟨c, p, h4, h5, (hfb c h4).mpr ⟨h6, h7⟩, h8, h9⟩, h10⟩)
              · exact .inr ⟨h1, k', c, p, by omega, h3, h4, h5, h6, h7, h8, h9, h10⟩
theorem go19 {F : Nat} (hF : 10000000 ≤ F) {w h rl : Nat} {ki ro : Nat → Nat} (hg : g_ok w h rl ki ro) {opn kyc : Nat → Int64} {gc : Int64} (hi : i_g w h ki opn kyc gc) {sn t : Nat} {sb : Nat → Nat} (hs : sn ≤ 5) (hsb : ∀ j, sb j ≤ 200) (ht : t ≤ 200) {H : Nat → Int64} (hH : ∀ x c, x < 48 → c < 64 → bL (H x) c → g_b w h c) (ov : Int64) : ∀ (m d : Nat) (A : Nat → Int64) (f : Nat), f ≤ 1 → d ≤ sn → sn - d < m →
    ∃ (A' : Nat → Int64) (f' : Nat), f' ≤ 1 ∧ m_X6_goOn_b19 F (nI sn) (fun j => nI (sb j)) H gc (nI rl) opn kyc (fun j => nI (ro j)) (nI t) m A ov (nI f) (nI d) = some (nI f', A') ∧ (f' = 0 → f = 0 ∧ ∀ x, A' x = A x) ∧
      ∀ x c', c' < 64 → (bL (A' x) c' ↔ (bL (A x) c' ∨ (∃ d' k' c p, d ≤ d' ∧ d' < sn ∧ t < sb d' ∧ k' < 8 ∧ c < 64 ∧ p < 5 ∧ bL (H (8 * d' + k')) c ∧ ¬ bL ov c ∧ c' = g_to w h ki c k' p ∧ g_ct rl ro c c' t = false ∧ x = 8 * d' + g_ky (ki c') k'))) := by
  intro m
  induction m with
  | zero => intro d A f _ _ h; omega
  | succ m ih =>
    intro d A f hf hd hm
    unfold m_X6_goOn_b19
    by_cases e : d = sn
    · refine ⟨A, f, hf, ?_, fun h => ⟨h, fun _ => rfl⟩, fun x c' _ => ⟨.inl, fun h => h.elim id (fun ⟨d', _, _, _, h1, h2, _⟩ => by omega)⟩⟩
      rw [if_pos (nI_le (by omega) (by omega)), if_neg]
      intro q
      rcases (by omega : f = 0 ∨ f = 1) with rfl | rfl
      · exact q (.inl rfl)
      · exact q (.inr rfl)
    · obtain ⟨A1, f1, a0, a1, a2, a3⟩ := go31 (F := F) hF hg hi hs hsb ht hH ov (d := d) (by omega) (m_X6_goOn_b19 F (nI sn) (fun j => nI (sb j)) H gc (nI rl) opn kyc (fun j => nI (ro j)) (nI t) m) F 0 A f hf (by omega) (by omega)
      obtain ⟨A2, f2, b0, b1, b2, b3⟩ := ih (d + 1) A1 f1 a0 (by omega) (by omega)
      refine ⟨A2, f2, b0, ?_, ?_, fun x c' hc' => ?_⟩
      · rw [if_neg (nI_ge (by omega) (by omega))]
        exact a1.trans b1
      · intro h
        obtain ⟨c1, c2⟩ := b2 h
        obtain ⟨c3, c4⟩ := a2 c1
        exact ⟨c3, fun x => (c2 x).trans (c4 x)⟩
      · rw [b3 x c' hc', a3 x c' hc']
        constructor
        · rintro ((h | ⟨h1, k', c, p, h2, h3⟩) | ⟨d', k', c, p, h1, h2⟩)
          · exact .inl h
          · exact .inr ⟨d, k', c, p, Nat.le_refl _, by omega, h1, h3⟩
          · exact .inr ⟨d', k', c, p, by omega, h2⟩
        · rintro (h | ⟨d', k', c, p, h1, h2, h3, h4⟩)
          · exact .inl (.inl h)
          · by_cases q : d' = d
            · subst q
              exact .inl (.inr ⟨h3, k', c, p, by omega, h4⟩)
            · exact .inr ⟨d', k', c, p, by omega, h2, h3, h4⟩
theorem cnt42 {F : Nat} {sn t s : Nat} {sc sa sb : Nat → Nat} (hs : sn ≤ 5) (hsc : ∀ j, sc j < 64) (hss : s < sn) (x2 : Int32) (k5 : (Nat → Int64) → Int32 → Int32 → Option (Int32 × (Nat → Int64))) : ∀ (m k : Nat) (A : Nat → Int64) (mo : Nat), mo ≤ 5 → k ≤ 8 → 8 - k < m →
    ∃ (A' : Nat → Int64) (mo' : Nat), mo' ≤ 5 ∧ m_X6_countDone_b42 F (nI sn) (fun j => nI (sc j)) (fun j => nI (sa j)) (fun j => nI (sb j)) (nI t) x2 k5 m A (nI mo) (nI s) (nI k) = k5 A' (nI mo') (nI (s + 1)) ∧
      (mo ≤ mo' ∧ (∀ k', k ≤ k' → k' < 8 → bL (A (8 * s + k')) (sc s) → s + 1 ≤ mo') ∧ (mo' = mo ∨ (mo' = s + 1 ∧ ∃ k', k' < 8 ∧ bL (A (8 * s + k')) (sc s)))) ∧
      ∀ e k' c, k' < 8 → c < 64 → (bL (A' (8 * e + k')) c ↔ (if k ≤ k' ∧ e = s then bL (A (8 * s + k')) c ∧ c ≠ sc s else if k ≤ k' ∧ e = s + 1 then bL (A (8 * (s + 1) + k')) c ∨ (bL (A (8 * s + k')) c ∧ c = sc s) else bL (A (8 * e + k')) c)) := by
  have hss2 := hsc s
  intro m
  induction m with
  | zero => intro k A mo _ _ h; omega
  | succ m ih =>
    intro k A mo hmo hk hm
    unfold m_X6_countDone_b42
    by_cases e : k = 8
    · refine ⟨A, mo, hmo, ?_, ⟨Nat.le_refl _, fun k' h1 h2 => by omega, .inl rfl⟩, fun e' k' c hk' hc => ?_⟩
      · rw [if_pos (by rw [e]; decide), nI_1]
      · rw [if_neg (by omega), if_neg (by omega)]
    · have ix : nI s * (8 : Int32) + nI k = nI (8 * s + k) := by rw [l_8, pk_mul, nI_add]; congr 1; omega
      have ix2 : nI (8 * s + k) + (8 : Int32) = nI (8 * (s + 1) + k) := by rw [l_8, nI_add]; congr 1; omega
      rw [if_neg (by rw [l_8]; exact nI_ge (by omega) (by decide)), ix, ix2]
      simp only [if_neg (nI_in (c := 8 * s + k) (N := 48) (by omega) (by decide)), if_neg (nI_in (c := 8 * (s + 1) + k) (N := 48) (by omega) (by decide)), if_neg (nI_in (c := s) (N := 5) (by omega) (by decide))]
      rw [nI_clamp (n := 8 * s + k) (by omega), nI_clamp (n := 8 * (s + 1) + k) (by omega), nI_clamp (n := s) (by omega), nI_1, nI_1]
      obtain ⟨B, hB⟩ : ∃ B, B = vp_updL (vp_updL A (8 * s + k) (A (8 * s + k) &&& (A (8 * s + k) &&& ((1 : Int64) <<< ((nI (sc s)).toInt64 &&& 63)) ^^^ (-1)))) (8 * (s + 1) + k) ((vp_updL A (8 * s + k) (A (8 * s + k) &&& (A (8 * s + k) &&& ((1 : Int64) <<< ((nI (sc s)).toInt64 &&& 63)) ^^^ (-1)))) (8 * (s + 1) + k) ||| (A (8 * s + k) &&& ((1 : Int64) <<< ((nI (sc s)).toInt64 &&& 63)))) := ⟨_, rfl⟩
      rw [← hB]
      have hBb : ∀ e' k' c, k' < 8 → c < 64 → (bL (B (8 * e' + k')) c ↔ (if k' = k ∧ e' = s then bL (A (8 * s + k')) c ∧ c ≠ sc s else if k' = k ∧ e' = s + 1 then bL (A (8 * (s + 1) + k')) c ∨ (bL (A (8 * s + k')) c ∧ c = sc s) else bL (A (8 * e' + k')) c)) := by
        intro e' k' c hk' hc
        rw [hB]
        by_cases q1 : k' = k ∧ e' = s
        · obtain ⟨rfl, rfl⟩ := q1
          rw [if_pos ⟨rfl, rfl⟩, pk_uLn (by omega), pk_uLs, bL_and, bL_not _ hc, bL_and, bL_one hss2]
          exact ⟨fun h => ⟨h.1, fun y => h.2 ⟨h.1, y⟩⟩, fun h => ⟨h.1, fun y => h.2 y.2⟩⟩
        · rw [if_neg q1]
          by_cases q2 : k' = k ∧ e' = s + 1
          · obtain ⟨rfl, rfl⟩ := q2
            rw [if_pos ⟨rfl, rfl⟩, pk_uLs, pk_uLn (by omega), bL_or, bL_and, bL_one hss2]
          · rw [if_neg q2, pk_uLn (by omega), pk_uLn (by omega)]
      have hcb : bL (A (8 * s + k) &&& ((1 : Int64) <<< ((nI (sc s)).toInt64 &&& 63))) = fun c => (bL (A (8 * s + k)) c ∧ c = sc s) := by
        funext c; exact propext (by rw [bL_and, bL_one hss2])
      have hAB : ∀ k', k + 1 ≤ k' → k' < 8 → ∀ c, c < 64 → (bL (B (8 * s + k')) c ↔ bL (A (8 * s + k')) c) := by
        intro k' h1 h2 c hc
        rw [hBb s k' c h2 hc, if_neg (by omega), if_neg (by omega)]
      have hAB2 : ∀ k', k + 1 ≤ k' → k' < 8 → ∀ c, c < 64 → (bL (B (8 * (s + 1) + k')) c ↔ bL (A (8 * (s + 1) + k')) c) := by
        intro k' h1 h2 c hc
        rw [hBb (s + 1) k' c h2 hc, if_neg (by omega), if_neg (by omega)]
      have bits : ∀ A' : Nat → Int64, (∀ e k' c, k' < 8 → c < 64 → (bL (A' (8 * e + k')) c ↔ (if k + 1 ≤ k' ∧ e = s then bL (B (8 * s + k')) c ∧ c ≠ sc s else if k + 1 ≤ k' ∧ e = s + 1 then bL (B (8 * (s + 1) + k')) c ∨ (bL (B (8 * s + k')) c ∧ c = sc s) else bL (B (8 * e + k')) c))) → ∀ e k' c, k' < 8 → c < 64 → (bL (A' (8 * e + k')) c ↔ (if k ≤ k' ∧ e = s then bL (A (8 * s + k')) c ∧ c ≠ sc s else if k ≤ k' ∧ e = s + 1 then bL (A (8 * (s + 1) + k')) c ∨ (bL (A (8 * s + k')) c ∧ c = sc s) else bL (A (8 * e + k')) c)) := by
        intro A' g e' k' c hk' hc
        rw [g e' k' c hk' hc]
        by_cases q1 : k + 1 ≤ k' ∧ e' = s
        · rw [if_pos q1, if_pos (by omega), hAB k' q1.1 hk' c hc]
        · rw [if_neg q1]
          by_cases q2 : k + 1 ≤ k' ∧ e' = s + 1
          · rw [if_pos q2, if_neg (by omega), if_pos (by omega), hAB k' q2.1 hk' c hc, hAB2 k' q2.1 hk' c hc]
          · rw [if_neg q2, hBb e' k' c hk' hc]
            by_cases q3 : k' = k ∧ e' = s
            · rw [if_pos q3, if_pos (by omega)]
            · rw [if_neg q3]
              by_cases q4 : k' = k ∧ e' = s + 1
              · rw [if_pos q4, if_neg (by omega), if_pos (by omega)]
              · rw [if_neg q4, if_neg (by omega), if_neg (by omega)]
      by_cases hz : A (8 * s + k) &&& ((1 : Int64) <<< ((nI (sc s)).toInt64 &&& 63)) = 0
      · rw [if_pos ((lg0 _).mpr hz)]
        obtain ⟨A', mo', g0, g1, ⟨g2, g3, g4⟩, g5⟩ := ih (k + 1) B mo hmo (by omega) (by omega)
        refine ⟨A', mo', g0, g1, ⟨g2, ?_, ?_⟩, bits A' g5⟩
        · intro k' h1 h2 h3
          by_cases q : k' = k
          · subst q
            have := bL_z.mp hz (sc s) hss2
            rw [hcb] at this
            exact absurd ⟨h3, rfl⟩ this
          · exact g3 k' (by omega) h2 ((hAB k' (by omega) h2 _ hss2).mpr h3)
        · rcases g4 with g4 | ⟨g4, k', h1, h2⟩
          · exact .inl g4
          · refine .inr ⟨g4, k', h1, ?_⟩
            rw [hBb s k' _ h1 hss2] at h2
            split at h2
            · exact absurd rfl h2.2
            · rw [if_neg (by omega)] at h2; exact h2
      · rw [if_neg (mt (lg0 _).mp hz)]
        have hne : bL (A (8 * s + k)) (sc s) := by
          false_or_by_contra
          rename_i q
          apply hz
          rw [bL_z]
          intro c hc hb
          rw [hcb] at hb
          exact q (hb.2 ▸ hb.1)
        have emo : (if nI mo < nI (s + 1) then nI (s + 1) else nI mo) = nI (if mo < s + 1 then s + 1 else mo) := by
          simp (disch := omega) only [nI_ltI]
          split <;> rfl
        rw [emo]
        have hmo2 : (if mo < s + 1 then s + 1 else mo) ≤ 5 := by split <;> omega
        obtain ⟨A', mo', g0, g1, ⟨g2, g3, g4⟩, g5⟩ := ih (k + 1) B (if mo < s + 1 then s + 1 else mo) hmo2 (by omega) (by omega)
        refine ⟨A', mo', g0, g1, ⟨by split at g2 <;> omega, ?_, ?_⟩, bits A' g5⟩
        · intro k' h1 h2 h3
          by_cases q : k' = k
          · split at g2 <;> omega
          · exact g3 k' (by omega) h2 ((hAB k' (by omega) h2 _ hss2).mpr h3)
        · rcases g4 with g4 | ⟨g4, k', h1, h2⟩
          · split at g4
            · exact .inr ⟨g4, k, by omega, hne⟩
            · exact .inl g4
          · refine .inr ⟨g4, k', h1, ?_⟩
            rw [hBb s k' _ h1 hss2] at h2
            split at h2
            · exact absurd rfl h2.2
            · rw [if_neg (by omega)] at h2; exact h2
theorem cnt5 {F : Nat} (hF : 10000000 ≤ F) {sn t : Nat} {sc sa sb : Nat → Nat} (hs : sn ≤ 5) (hsc : ∀ j, sc j < 64) (hsa : ∀ j, sa j ≤ 200) (hsb : ∀ j, sb j ≤ 200) (ht : t ≤ 201) (x2 : Int32) (A0 : Nat → Int64) (mo0 : Nat) : ∀ (m s : Nat) (A : Nat → Int64) (mo : Nat), s ≤ sn → sn - s < m → mo ≤ 5 →
    (∀ e k c, e ≤ 5 → k < 8 → c < 64 → (bL (A (8 * e + k)) c ↔ ∃ d, d ≤ 5 ∧ bL (A0 (8 * d + k)) c ∧ gs sc sa sb c t s d = e)) →
    (mo0 ≤ mo ∧ (∀ d k c, d ≤ 5 → k < 8 → c < 64 → bL (A0 (8 * d + k)) c → gs sc sa sb c t s d ≠ d → gs sc sa sb c t s d ≤ mo) ∧ (mo = mo0 ∨ ∃ d k c, d ≤ 5 ∧ k < 8 ∧ c < 64 ∧ bL (A0 (8 * d + k)) c ∧ mo ≤ gs sc sa sb c t sn d)) →
    ∃ (A' : Nat → Int64) (mo' : Nat), mo' ≤ 5 ∧ m_X6_countDone_b5 F (nI sn) (fun j => nI (sc j)) (fun j => nI (sa j)) (fun j => nI (sb j)) (nI t) x2 m A (nI mo) (nI s) = some (nI mo', A') ∧
      (∀ e k c, e ≤ 5 → k < 8 → c < 64 → (bL (A' (8 * e + k)) c ↔ ∃ d, d ≤ 5 ∧ bL (A0 (8 * d + k)) c ∧ gs sc sa sb c t sn d = e)) ∧
      (mo0 ≤ mo' ∧ (∀ d k c, d ≤ 5 → k < 8 → c < 64 → bL (A0 (8 * d + k)) c → gs sc sa sb c t sn d ≠ d → gs sc sa sb c t sn d ≤ mo') ∧ (mo' = mo0 ∨ ∃ d k c, d ≤ 5 ∧ k < 8 ∧ c < 64 ∧ bL (A0 (8 * d + k)) c ∧ mo' ≤ gs sc sa sb c t sn d)) := by
  intro m
  induction m with
  | zero => intro s A mo _ h; omega
  | succ m ih =>
    intro s A mo hss hm hmo hA hmm
    unfold m_X6_countDone_b5
    by_cases e : s = sn
    · subst e
      exact ⟨A, mo, hmo, by rw [if_pos (nI_le (by omega) (by omega))], hA, hmm⟩
    · have hm1 : s + 1 ≤ sn := by omega
      have hm2 : sn - (s + 1) < m := by clear hmm hA; omega
      have a1 := hsa s
      have a2 := hsb s
      have hin := nI_in (c := s) (N := 5) (by omega) (by decide)
      rw [if_neg (nI_ge (by omega) (by omega)), if_neg hin, if_neg hin, nI_clamp (by omega), nI_1]
      have hno : (∀ c, gok sc sa sb c t s = false) → ∃ (A' : Nat → Int64) (mo' : Nat), mo' ≤ 5 ∧ m_X6_countDone_b5 F (nI sn) (fun j => nI (sc j)) (fun j => nI (sa j)) (fun j => nI (sb j)) (nI t) x2 m A (nI mo) (nI (s + 1)) = some (nI mo', A') ∧
          (∀ e k c, e ≤ 5 → k < 8 → c < 64 → (bL (A' (8 * e + k)) c ↔ ∃ d, d ≤ 5 ∧ bL (A0 (8 * d + k)) c ∧ gs sc sa sb c t sn d = e)) ∧
          (mo0 ≤ mo' ∧ (∀ d k c, d ≤ 5 → k < 8 → c < 64 → bL (A0 (8 * d + k)) c → gs sc sa sb c t sn d ≠ d → gs sc sa sb c t sn d ≤ mo') ∧ (mo' = mo0 ∨ ∃ d k c, d ≤ 5 ∧ k < 8 ∧ c < 64 ∧ bL (A0 (8 * d + k)) c ∧ mo' ≤ gs sc sa sb c t sn d)) := by
        intro hk
        have hgs : ∀ c d, gs sc sa sb c t (s + 1) d = gs sc sa sb c t s d := by
          intro c d
          show (if gs sc sa sb c t s d = s ∧ gok sc sa sb c t s = true then s + 1 else gs sc sa sb c t s d) = _
          rw [if_neg (fun q => by rw [hk c] at q; exact absurd q.2 (by decide))]
        refine ih (s + 1) A mo (by omega) (by omega) hmo ?_ ?_
        · intro e k c h1 h2 h3
          rw [hA e k c h1 h2 h3]
          simp only [hgs]
        · simp only [hgs]
          exact hmm
      simp (disch := omega) only [nI_ltI, nI_leI]
      by_cases c1 : t < sa s
      · rw [if_pos c1]
        exact hno (fun c => by unfold gok; simp only [decide_eq_false_iff_not]; omega)
      · rw [if_neg c1]
        by_cases c2 : t ≤ sb s
        · rw [if_pos c2]
          have hgk : ∀ c, gok sc sa sb c t s = decide (c = sc s) := by
            intro c; unfold gok
            by_cases q : sc s = c
            · rw [decide_eq_true (by omega), decide_eq_true q.symm]
            · rw [decide_eq_false (by omega), decide_eq_false (fun h => q h.symm)]
          have hgs : ∀ c d, gs sc sa sb c t (s + 1) d = if gs sc sa sb c t s d = s ∧ c = sc s then s + 1 else gs sc sa sb c t s d := by
            intro c d
            show (if gs sc sa sb c t s d = s ∧ gok sc sa sb c t s = true then s + 1 else gs sc sa sb c t s d) = _
            simp only [hgk, decide_eq_true_eq]
          obtain ⟨A1, mo1, g0, g1, ⟨g2, g3, g4⟩, g5⟩ := cnt42 (F := F) (sa := sa) (sb := sb) (t := t) hs hsc (s := s) (by omega) x2 (m_X6_countDone_b5 F (nI sn) (fun j => nI (sc j)) (fun j => nI (sa j)) (fun j => nI (sb j)) (nI t) x2 m) F 0 A mo hmo (by omega) (by omega)
          obtain ⟨A2, mo2, f0, f1, f2, f3⟩ := ih (s + 1) A1 mo1 hm1 hm2 g0 (by
            intro e k c h1 h2 h3
            rw [g5 e k c h2 h3]
            simp only [hgs]
            by_cases q1 : e = s
            · rw [if_pos ⟨by omega, q1⟩, hA s k c (by omega) h2 h3, q1]
              constructor
              · rintro ⟨⟨d, d1, d2, d3⟩, d4⟩
                exact ⟨d, d1, d2, by rw [if_neg (fun y => d4 y.2)]; exact d3⟩
              · rintro ⟨d, d1, d2, d3⟩
                by_cases y : gs sc sa sb c t s d = s ∧ c = sc s
                · rw [if_pos y] at d3; omega
                · rw [if_neg y] at d3
                  exact ⟨⟨d, d1, d2, d3⟩, fun z => y ⟨d3, z⟩⟩
            · rw [if_neg (by omega)]
              by_cases q2 : e = s + 1
              · rw [if_pos ⟨by omega, q2⟩, hA (s + 1) k c (by omega) h2 h3, hA s k c (by omega) h2 h3, q2]
                constructor
                · rintro (⟨d, d1, d2, d3⟩ | ⟨⟨d, d1, d2, d3⟩, d4⟩)
                  · exact ⟨d, d1, d2, by rw [if_neg (fun y => by omega)]; exact d3⟩
                  · exact ⟨d, d1, d2, by rw [if_pos ⟨d3, d4⟩]⟩
                · rintro ⟨d, d1, d2, d3⟩
                  by_cases y : gs sc sa sb c t s d = s ∧ c = sc s
                  · exact .inr ⟨⟨d, d1, d2, y.1⟩, y.2⟩
                  · rw [if_neg y] at d3
                    exact .inl ⟨d, d1, d2, d3⟩
              · rw [if_neg (by omega), hA e k c h1 h2 h3]
                constructor
                · rintro ⟨d, d1, d2, d3⟩
                  exact ⟨d, d1, d2, by rw [if_neg (fun y => by omega)]; exact d3⟩
                · rintro ⟨d, d1, d2, d3⟩
                  by_cases y : gs sc sa sb c t s d = s ∧ c = sc s
                  · rw [if_pos y] at d3; omega
                  · rw [if_neg y] at d3
                    exact ⟨d, d1, d2, d3⟩) (by
            obtain ⟨m1, m2, m3⟩ := hmm
            refine ⟨by omega, ?_, ?_⟩
            · intro d k c h1 h2 h3 h4 h5
              rw [hgs] at h5 ⊢
              by_cases y : gs sc sa sb c t s d = s ∧ c = sc s
              · rw [if_pos y]
                refine g3 k (by omega) h2 ?_
                rw [← y.2, hA s k c (by omega) h2 h3]
                exact ⟨d, h1, h4, y.1⟩
              · rw [if_neg y] at h5 ⊢
                have := m2 d k c h1 h2 h3 h4 h5
                omega
            · rcases g4 with g4 | ⟨g4, k, h1, h2⟩
              · rcases m3 with m3 | ⟨d, k, c, m3⟩
                · exact .inl (by omega)
                · exact .inr ⟨d, k, c, by rw [g4]; exact m3⟩
              · clear m3
                rw [hA s k _ (by omega) h1 (hsc s)] at h2
                obtain ⟨d, d1, d2, d3⟩ := h2
                refine .inr ⟨d, k, sc s, d1, h1, hsc s, d2, ?_⟩
                have h6 : gs sc sa sb (sc s) t (s + 1) d = s + 1 := by rw [hgs, if_pos ⟨d3, rfl⟩]
                have h7 := gs_ups (sc := sc) (sa := sa) (sb := sb) (c := sc s) (t := t) (d := d) (s := s + 1) (k := sn - (s + 1))
                rw [show s + 1 + (sn - (s + 1)) = sn by omega] at h7
                omega)
          exact ⟨A2, mo2, f0, g1.trans f1, f2, f3⟩
        · rw [if_neg c2]
          exact hno (fun c => by unfold gok; simp only [decide_eq_false_iff_not]; omega)
theorem cnt_c {F : Nat} (hF : 10000000 ≤ F) {sn t : Nat} {sc sa sb : Nat → Nat} (hs : sn ≤ 5) (hsc : ∀ j, sc j < 64) (hsa : ∀ j, sa j ≤ 200) (hsb : ∀ j, sb j ≤ 200) (ht : t ≤ 201) (A0 : Nat → Int64) {mo0 : Nat} (hmo : mo0 ≤ 5) :
    ∃ (A' : Nat → Int64) (mo' : Nat), mo' ≤ 5 ∧ m_X6_countDone F (nI sn) (fun j => nI (sc j)) (fun j => nI (sa j)) (fun j => nI (sb j)) (nI t) (nI mo0) A0 = some (nI mo', A') ∧
      (∀ e k c, e ≤ 5 → k < 8 → c < 64 → (bL (A' (8 * e + k)) c ↔ ∃ d, d ≤ 5 ∧ bL (A0 (8 * d + k)) c ∧ gs sc sa sb c t sn d = e)) ∧
      (mo0 ≤ mo' ∧ (∀ d k c, d ≤ 5 → k < 8 → c < 64 → bL (A0 (8 * d + k)) c → gs sc sa sb c t sn d ≠ d → gs sc sa sb c t sn d ≤ mo') ∧ (mo' = mo0 ∨ ∃ d k c, d ≤ 5 ∧ k < 8 ∧ c < 64 ∧ bL (A0 (8 * d + k)) c ∧ mo' ≤ gs sc sa sb c t sn d)) :=
  cnt5 (F := F) hF hs hsc hsa hsb ht (nI mo0) A0 mo0 F 0 A0 mo0 (by omega) (by omega) hmo
    (fun e k c h1 _ _ => ⟨fun h => ⟨e, h1, h, rfl⟩, fun ⟨d, _, h, q⟩ => by have q' : d = e := q; rw [← q']; exact h⟩)
    ⟨Nat.le_refl _, fun d k c _ _ _ _ h => absurd rfl h, .inl rfl⟩
