/-! could: the reference's tick -/
theorem x48 {c k n : Nat} (hk : k < 8) (hn : n < 6) : (48 * c + 6 * k + n) / 48 = c ∧ (48 * c + 6 * k + n) / 6 % 8 = k ∧ (48 * c + 6 * k + n) % 6 = n := by omega
theorem cr212 {F : Nat} (a b c d e : Int32) (f1 f2 f3 f4 f5 : Nat → Int32) (k55 : Int32 → Int32 → Int32 → (Nat → Int32) → (Nat → Int32) → Int32 → Int32 → Option (Int32 × Int32 × Int32 × Int32 × (Nat → Int32) × (Nat → Int32))) (d1 d2 d3 v1 : Int32) (t : Nat) {X : Nat → Int32} (hX : ∀ x, x < 3072 → X x = 0 ∨ X x = 1) : ∀ (m x : Nat) (N : Nat → Int32), x ≤ 3072 → 3072 - x < m → (∀ y, y < x → N y = X y) →
    ∃ N', m_X8_could_b212 F a b c d e f1 f2 f3 f4 f5 k55 m d1 d2 d3 N X v1 (nI t) (nI x) = k55 d1 d2 d3 N' X v1 (nI (t + 1)) ∧ ∀ y, y < 3072 → N' y = X y := by
  intro m
  induction m with
  | zero => intro x N _ h; omega
  | succ m ih =>
    intro x N hx hm hN
    unfold m_X8_could_b212
    by_cases q : x = 3072
    · subst q
      exact ⟨N, by rw [if_pos (by decide), nI_1], hN⟩
    · have hin := nI_in (c := x) (N := 3072) (by omega) (by decide)
      have hnar : vp_nar .boolean (X x) = X x := by
        rcases hX x (by omega) with h | h <;> rw [h]
        · exact nar0
        · exact nar1
      rw [if_neg (by rw [l_3072]; exact nI_ge (by omega) (by decide)), if_neg hin, if_neg hin, nI_clamp (by omega), hnar, nI_1]
      refine ih (x + 1) _ (by omega) (by omega) ?_
      intro y hy
      by_cases w : y = x
      · rw [w, pk_us]
      · rw [pk_un w]; exact hN y (by omega)
theorem cr64 {F : Nat} (a b c d e : Int32) (f1 f2 f3 f4 f5 : Nat → Int32) (k55 : Int32 → Int32 → Int32 → (Nat → Int32) → (Nat → Int32) → Int32 → Int32 → Option (Int32 × Int32 × Int32 × Int32 × (Nat → Int32) × (Nat → Int32))) (d1 d2 d3 v1 : Int32) (t : Int32) (N : Nat → Int32) : ∀ (m x : Nat) (X : Nat → Int32), x ≤ 3072 → 3072 - x < m → (∀ y, y < x → X y = 0) →
    ∃ X', m_X8_could_b64 F a b c d e f1 f2 f3 f4 f5 k55 m d1 d2 d3 N X v1 t (nI x) = m_X8_could_b86 F a b c d e f1 f2 f3 f4 f5 k55 F d1 d2 d3 N X' v1 t (nI 0) ∧ ∀ y, y < 3072 → X' y = 0 := by
  intro m
  induction m with
  | zero => intro x X _ h; omega
  | succ m ih =>
    intro x X hx hm hN
    unfold m_X8_could_b64
    by_cases q : x = 3072
    · subst q
      exact ⟨X, by rw [if_pos (by decide)]; rfl, hN⟩
    · rw [if_neg (by rw [l_3072]; exact nI_ge (by omega) (by decide)), if_neg (nI_in (by omega) (by decide)), nI_clamp (by omega), nar0, nI_1]
      refine ih (x + 1) _ (by omega) (by omega) ?_
      intro y hy
      by_cases w : y = x
      · rw [w, pk_us]
      · rw [pk_un w]; exact hN y (by omega)
/-- what a state comes to by a press -/
def nx (w h rl sn : Nat) (ki ro sc sa sb : Nat → Nat) (t y p : Nat) : Nat := 48 * g_to w h ki (y / 48) (y / 6 % 8) p + 6 * g_kk w h rl ki ro (y / 48) (y / 6 % 8) t p + gs sc sa sb (g_to w h ki (y / 48) (y / 6 % 8) p) (t + 1) sn (y % 6)
def nv (w h sn : Nat) (ki sc sa sb : Nat → Nat) (t y p : Nat) : Nat := gs sc sa sb (g_to w h ki (y / 48) (y / 6 % 8) p) (t + 1) sn (y % 6)
def yo (w h rl : Nat) (ki ro : Nat → Nat) (t y p : Nat) : Nat := g_ov w h rl ki ro (y / 48) (y / 6 % 8) t p
theorem cr108 {F : Nat} (hF : 10000000 ≤ F) {w h rl : Nat} {ki ro : Nat → Nat} (hg : g_ok w h rl ki ro) {st sn t : Nat} {sc sa sb : Nat → Nat} (hs : sn ≤ 5) (hsc : ∀ j, sc j < 64) (hsa : ∀ j, sa j ≤ 200) (hsb : ∀ j, sb j ≤ 200) (ht : t < 200) (k55 : Int32 → Int32 → Int32 → (Nat → Int32) → (Nat → Int32) → Int32 → Int32 → Option (Int32 × Int32 × Int32 × Int32 × (Nat → Int32) × (Nat → Int32))) (k86 : Int32 → Int32 → Int32 → (Nat → Int32) → (Nat → Int32) → Int32 → Int32 → Int32 → Option (Int32 × Int32 × Int32 × Int32 × (Nat → Int32) × (Nat → Int32))) {N : Nat → Int32} {y : Nat} (hy : y < 3072) (hyb : g_b w h (y / 48)) (hyn : y % 6 ≤ sn) : ∀ (m p : Nat) (d1 d2 d3 : Int32) (X : Nat → Int32) (b : Nat), b ≤ 5 → (∀ x, x < 3072 → X x = 0 ∨ X x = 1) → p ≤ 5 → 5 - p < m →
    ∃ (e1 e2 e3 : Int32) (X' : Nat → Int32) (b' : Nat), b' ≤ 5 ∧ (∀ x, x < 3072 → X' x = 0 ∨ X' x = 1) ∧ m_X8_could_b108 F (nI w) (nI h) (nI rl) (nI st) (nI sn) (fun j => nI (ki j)) (fun j => nI (ro j)) (fun j => nI (sc j)) (fun j => nI (sa j)) (fun j => nI (sb j)) k55 k86 m d1 d2 d3 N X (nI b) (nI t) (nI y) (nI p) = k86 e1 e2 e3 N X' (nI b') (nI t) (nI (y + 1)) ∧
      (∀ x, x < 3072 → (X' x ≠ 0 ↔ (X x ≠ 0 ∨ ∃ p', p ≤ p' ∧ p' < 5 ∧ yo w h rl ki ro t y p' = 0 ∧ x = nx w h rl sn ki ro sc sa sb t y p'))) ∧
      b ≤ b' ∧ (∀ p', p ≤ p' → p' < 5 → yo w h rl ki ro t y p' ≠ 1 → nv w h sn ki sc sa sb t y p' ≤ b') ∧ (b' = b ∨ ∃ p', p ≤ p' ∧ p' < 5 ∧ yo w h rl ki ro t y p' ≠ 1 ∧ b' = nv w h sn ki sc sa sb t y p') := by
  have e48 : nI y / (48 : Int32) = nI (y / 48) := by rw [l_48, pk_div (by omega) (by decide) (by decide)]
  have e68 : nI y / (6 : Int32) - nI y / (6 : Int32) / (8 : Int32) * (8 : Int32) = nI (y / 6 % 8) := by
    rw [l_6, pk_div (by omega) (by decide) (by decide), l_8, pk_rem (by omega) (by decide) (by decide)]
  have e6 : nI y - nI y / (6 : Int32) * (6 : Int32) = nI (y % 6) := by rw [l_6, pk_rem (by omega) (by decide) (by decide)]
  have hk8 : y / 6 % 8 < 8 := by omega
  intro m
  induction m with
  | zero => intro p d1 d2 d3 X b _ _ _ h; omega
  | succ m ih =>
    intro p d1 d2 d3 X b hb hX hp hm
    unfold m_X8_could_b108
    by_cases e : p = 5
    · refine ⟨d1, d2, d3, X, b, hb, hX, ?_, fun x _ => ⟨.inl, fun h => h.elim id (fun ⟨p', h1, h2, _⟩ => by omega)⟩, Nat.le_refl _, fun p' h1 h2 => by omega, .inl rfl⟩
      rw [if_pos (by rw [e]; decide), nI_1]
    · have hm1 : p + 1 ≤ 5 := by omega
      have hm2 : 5 - (p + 1) < m := by omega
      have hbt := g_b_lt hg (g_to_b (k := y / 6 % 8) (p := p) hg hyb)
      have hkk := kk_lt hg (a := y / 48) (t := t) (p := p) hk8
      have hgu : nv w h sn ki sc sa sb t y p ≤ sn := gs_ub hyn (Nat.le_refl _)
      rw [if_neg (show ¬ 4 < nI p by rw [l_4]; exact nI_nlt (by omega) (by decide)), e6, e68, e48, g_ticks_r hg hyb hk8 (by omega) (by omega), Option.bind_some, nI_1, nI_1]
      dsimp only
      have hso := so_r (F := F) (sn := sn) (c := g_to w h ki (y / 48) (y / 6 % 8) p) (t := t + 1) hs hsc hsa hsb hbt (by omega) (nI (y % 6)) F (y % 6) hyn (by omega)
      have hso' : m_X8_so F (nI sn) (fun j => nI (sc j)) (fun j => nI (sa j)) (fun j => nI (sb j)) (nI (y % 6)) (nI (g_to w h ki (y / 48) (y / 6 % 8) p)) (nI (t + 1)) = some (nI (nv w h sn ki sc sa sb t y p)) := hso
      rw [hso', Option.bind_some]
      have emo : (if nI b < nI (nv w h sn ki sc sa sb t y p) then nI (nv w h sn ki sc sa sb t y p) else nI b) = nI (if b < nv w h sn ki sc sa sb t y p then nv w h sn ki sc sa sb t y p else b) := by
        simp (disch := omega) only [nI_ltI]
        split <;> rfl
      have hb2 : (if b < nv w h sn ki sc sa sb t y p then nv w h sn ki sc sa sb t y p else b) ≤ 5 := by split <;> omega
      have hov : yo w h rl ki ro t y p = 0 ∨ yo w h rl ki ro t y p = 1 ∨ yo w h rl ki ro t y p = 2 := by
        have := ov_lt (w := w) (h := h) (rl := rl) (ki := ki) (ro := ro) (a := y / 48) (k := y / 6 % 8) (t := t) (p := p)
        unfold yo; omega
      have eyo : g_ov w h rl ki ro (y / 48) (y / 6 % 8) t p = yo w h rl ki ro t y p := rfl
      rw [eyo, emo]
      have eix : (48 : Int32) * nI (g_to w h ki (y / 48) (y / 6 % 8) p) + (6 : Int32) * nI (g_kk w h rl ki ro (y / 48) (y / 6 % 8) t p) + nI (nv w h sn ki sc sa sb t y p) = nI (nx w h rl sn ki ro sc sa sb t y p) := by
        rw [l_48, l_6, pk_mul, pk_mul, nI_add, nI_add]; rfl
      have hnx : nx w h rl sn ki ro sc sa sb t y p < 3072 := by
        have : nx w h rl sn ki ro sc sa sb t y p = 48 * g_to w h ki (y / 48) (y / 6 % 8) p + 6 * g_kk w h rl ki ro (y / 48) (y / 6 % 8) t p + nv w h sn ki sc sa sb t y p := rfl
        omega
      rw [eix]
      rcases hov with ho | ho | ho
      · rw [ho, if_neg (show ¬ nI 0 = 1 by decide), if_pos (show nI 0 = 0 from rfl), if_neg (nI_in hnx (by decide)), nI_clamp (by omega), nar1]
        obtain ⟨e1, e2, e3, X', b', f1, f2, f3, f4, f5, f6, f7⟩ := ih (p + 1) (nI (g_to w h ki (y / 48) (y / 6 % 8) p)) (nI (g_kk w h rl ki ro (y / 48) (y / 6 % 8) t p)) (nI 0) (upd X (nx w h rl sn ki ro sc sa sb t y p) 1) _ hb2 (by
          intro x hx
          by_cases q : x = nx w h rl sn ki ro sc sa sb t y p
          · right; rw [q, pk_us]
          · rw [pk_un q]; exact hX x hx) hm1 hm2
        refine ⟨e1, e2, e3, X', b', f1, f2, f3, ?_, by split at f5 <;> omega, ?_, ?_⟩
        · intro x hx
          rw [f4 x hx]
          constructor
          · rintro (h1 | ⟨p', h1, h2⟩)
            · by_cases q : x = nx w h rl sn ki ro sc sa sb t y p
              · exact .inr ⟨p, Nat.le_refl _, by omega, ho, q⟩
              · rw [pk_un q] at h1; exact .inl h1
            · exact .inr ⟨p', by omega, h2⟩
          · rintro (h1 | ⟨p', h1, h2, h3, h4⟩)
            · left
              by_cases q : x = nx w h rl sn ki ro sc sa sb t y p
              · rw [q, pk_us]; decide
              · rw [pk_un q]; exact h1
            · by_cases q : p' = p
              · left; rw [q] at h4; rw [h4, pk_us]; decide
              · exact .inr ⟨p', by omega, h2, h3, h4⟩
        · intro p' h1 h2 h3
          by_cases q : p' = p
          · rw [q]; split at f5 <;> omega
          · exact f6 p' (by omega) h2 h3
        · rcases f7 with f7 | ⟨p', h1, h2⟩
          · split at f7
            · exact .inr ⟨p, Nat.le_refl _, by omega, by omega, f7⟩
            · exact .inl f7
          · exact .inr ⟨p', by omega, h2⟩
      · rw [ho, if_pos (show nI 1 = 1 from rfl)]
        obtain ⟨e1, e2, e3, X', b', f1, f2, f3, f4, f5, f6, f7⟩ := ih (p + 1) (nI (g_to w h ki (y / 48) (y / 6 % 8) p)) (nI (g_kk w h rl ki ro (y / 48) (y / 6 % 8) t p)) (nI 1) X b hb hX hm1 hm2
        refine ⟨e1, e2, e3, X', b', f1, f2, f3, ?_, f5, ?_, ?_⟩
        · intro x hx
          rw [f4 x hx]
          constructor
          · rintro (h1 | ⟨p', h1, h2⟩)
            · exact .inl h1
            · exact .inr ⟨p', by omega, h2⟩
          · rintro (h1 | ⟨p', h1, h2, h3, h4⟩)
            · exact .inl h1
            · by_cases q : p' = p
              · rw [q] at h3; omega
              · exact .inr ⟨p', by omega, h2, h3, h4⟩
        · intro p' h1 h2 h3
          by_cases q : p' = p
          · rw [q] at h3; exact absurd ho h3
          · exact f6 p' (by omega) h2 h3
        · rcases f7 with f7 | ⟨p', h1, h2⟩
          · exact .inl f7
          · exact .inr ⟨p', by omega, h2⟩
      · rw [ho, if_neg (show ¬ nI 2 = 1 by decide), if_neg (show ¬ nI 2 = 0 by decide)]
        obtain ⟨e1, e2, e3, X', b', f1, f2, f3, f4, f5, f6, f7⟩ := ih (p + 1) (nI (g_to w h ki (y / 48) (y / 6 % 8) p)) (nI (g_kk w h rl ki ro (y / 48) (y / 6 % 8) t p)) (nI 2) X _ hb2 hX hm1 hm2
        refine ⟨e1, e2, e3, X', b', f1, f2, f3, ?_, by split at f5 <;> omega, ?_, ?_⟩
        · intro x hx
          rw [f4 x hx]
          constructor
          · rintro (h1 | ⟨p', h1, h2⟩)
            · exact .inl h1
            · exact .inr ⟨p', by omega, h2⟩
          · rintro (h1 | ⟨p', h1, h2, h3, h4⟩)
            · exact .inl h1
            · by_cases q : p' = p
              · rw [q] at h3; omega
              · exact .inr ⟨p', by omega, h2, h3, h4⟩
        · intro p' h1 h2 h3
          by_cases q : p' = p
          · rw [q]; split at f5 <;> omega
          · exact f6 p' (by omega) h2 h3
        · rcases f7 with f7 | ⟨p', h1, h2⟩
          · split at f7
            · exact .inr ⟨p, Nat.le_refl _, by omega, by omega, f7⟩
            · exact .inl f7
          · exact .inr ⟨p', by omega, h2⟩
theorem cr86 {F : Nat} (hF : 10000000 ≤ F) {w h rl : Nat} {ki ro : Nat → Nat} (hg : g_ok w h rl ki ro) {st sn t : Nat} {sc sa sb : Nat → Nat} (hs : sn ≤ 5) (hsc : ∀ j, sc j < 64) (hsa : ∀ j, sa j ≤ 200) (hsb : ∀ j, sb j ≤ 200) (ht : t < 200) (k55 : Int32 → Int32 → Int32 → (Nat → Int32) → (Nat → Int32) → Int32 → Int32 → Option (Int32 × Int32 × Int32 × Int32 × (Nat → Int32) × (Nat → Int32))) {N : Nat → Int32} (hN : ∀ y, y < 3072 → N y ≠ 0 → g_b w h (y / 48) ∧ y % 6 ≤ sn) : ∀ (m y : Nat) (d1 d2 d3 : Int32) (X : Nat → Int32) (b : Nat), b ≤ 5 → (∀ x, x < 3072 → X x = 0 ∨ X x = 1) → y ≤ 3072 → 3072 - y < m →
    ∃ (e1 e2 e3 : Int32) (X' : Nat → Int32) (b' : Nat), b' ≤ 5 ∧ (∀ x, x < 3072 → X' x = 0 ∨ X' x = 1) ∧ m_X8_could_b86 F (nI w) (nI h) (nI rl) (nI st) (nI sn) (fun j => nI (ki j)) (fun j => nI (ro j)) (fun j => nI (sc j)) (fun j => nI (sa j)) (fun j => nI (sb j)) k55 m d1 d2 d3 N X (nI b) (nI t) (nI y) = m_X8_could_b212 F (nI w) (nI h) (nI rl) (nI st) (nI sn) (fun j => nI (ki j)) (fun j => nI (ro j)) (fun j => nI (sc j)) (fun j => nI (sa j)) (fun j => nI (sb j)) k55 F e1 e2 e3 N X' (nI b') (nI t) (nI 0) ∧
      (∀ x, x < 3072 → (X' x ≠ 0 ↔ (X x ≠ 0 ∨ ∃ y' p', y ≤ y' ∧ y' < 3072 ∧ N y' ≠ 0 ∧ p' < 5 ∧ yo w h rl ki ro t y' p' = 0 ∧ x = nx w h rl sn ki ro sc sa sb t y' p'))) ∧
      b ≤ b' ∧ (∀ y' p', y ≤ y' → y' < 3072 → N y' ≠ 0 → p' < 5 → yo w h rl ki ro t y' p' ≠ 1 → nv w h sn ki sc sa sb t y' p' ≤ b') ∧ (b' = b ∨ ∃ y' p', y ≤ y' ∧ y' < 3072 ∧ N y' ≠ 0 ∧ p' < 5 ∧ yo w h rl ki ro t y' p' ≠ 1 ∧ b' = nv w h sn ki sc sa sb t y' p') := by
  intro m
  induction m with
  | zero => intro y d1 d2 d3 X b _ _ _ h; omega
  | succ m ih =>
    intro y d1 d2 d3 X b hb hX hy hm
    unfold m_X8_could_b86
    by_cases e : y = 3072
    · refine ⟨d1, d2, d3, X, b, hb, hX, ?_, fun x _ => ⟨.inl, fun h => h.elim id (fun ⟨y', p', h1, h2, _⟩ => by omega)⟩, Nat.le_refl _, fun y' p' h1 h2 => by omega, .inl rfl⟩
      rw [if_pos (by rw [e]; decide)]; rfl
    · have hm1 : y + 1 ≤ 3072 := by omega
      have hm2 : 3072 - (y + 1) < m := by omega
      rw [if_neg (by rw [l_3072]; exact nI_ge (by omega) (by decide)), if_neg (nI_in (by omega) (by decide)), nI_clamp (by omega)]
      by_cases q0 : N y = 0
      · rw [if_pos q0, nI_1]
        obtain ⟨e1, e2, e3, X', b', f1, f2, f3, f4, f5, f6, f7⟩ := ih (y + 1) d1 d2 d3 X b hb hX hm1 hm2
        refine ⟨e1, e2, e3, X', b', f1, f2, f3, ?_, f5, ?_, ?_⟩
        · intro x hx
          rw [f4 x hx]
          constructor
          · rintro (h1 | ⟨y', p', h1, h2⟩)
            · exact .inl h1
            · exact .inr ⟨y', p', by omega, h2⟩
          · rintro (h1 | ⟨y', p', h1, h2, h3, h4⟩)
            · exact .inl h1
            · by_cases q : y' = y
              · rw [q] at h3; exact absurd q0 h3
              · exact .inr ⟨y', p', by omega, h2, h3, h4⟩
        · intro y' p' h1 h2 h3
          by_cases q : y' = y
          · rw [q] at h3; exact absurd q0 h3
          · exact f6 y' p' (by omega) h2 h3
        · rcases f7 with f7 | ⟨y', p', h1, h2⟩
          · exact .inl f7
          · exact .inr ⟨y', p', by omega, h2⟩
      · rw [if_neg q0]
        obtain ⟨hn1, hn2⟩ := hN y (by omega) q0
        obtain ⟨a1, a2, a3, X1, b1, c1, c2, c3, c4, c5, c6, c7⟩ := cr108 (F := F) hF hg (st := st) hs hsc hsa hsb ht k55 (m_X8_could_b86 F (nI w) (nI h) (nI rl) (nI st) (nI sn) (fun j => nI (ki j)) (fun j => nI (ro j)) (fun j => nI (sc j)) (fun j => nI (sa j)) (fun j => nI (sb j)) k55 m) (N := N) (y := y) (by omega) hn1 hn2 F 0 d1 d2 d3 X b hb hX (by omega) (by omega)
        obtain ⟨e1, e2, e3, X', b', f1, f2, f3, f4, f5, f6, f7⟩ := ih (y + 1) a1 a2 a3 X1 b1 c1 c2 hm1 hm2
        refine ⟨e1, e2, e3, X', b', f1, f2, c3.trans f3, ?_, Nat.le_trans c5 f5, ?_, ?_⟩
        · intro x hx
          rw [f4 x hx, c4 x hx]
          constructor
          · rintro ((h1 | ⟨p', h1, h2, h3⟩) | ⟨y', p', h1, h2⟩)
            · exact .inl h1
            · exact .inr ⟨y, p', Nat.le_refl _, by omega, q0, h2, h3⟩
            · exact .inr ⟨y', p', by omega, h2⟩
          · rintro (h1 | ⟨y', p', h1, h2, h3, h4, h5⟩)
            · exact .inl (.inl h1)
            · by_cases q : y' = y
              · rw [q] at h5; exact .inl (.inr ⟨p', by omega, h4, h5⟩)
              · exact .inr ⟨y', p', by omega, h2, h3, h4, h5⟩
        · intro y' p' h1 h2 h3 h4 h5
          by_cases q : y' = y
          · rw [q] at h5 ⊢
            exact Nat.le_trans (c6 p' (by omega) h4 h5) f5
          · exact f6 y' p' (by omega) h2 h3 h4 h5
        · rcases f7 with f7 | ⟨y', p', h1, h2⟩
          · rcases c7 with c7 | ⟨p', h1, h2, h3, h4⟩
            · exact .inl (f7.trans c7)
            · exact .inr ⟨y, p', Nat.le_refl _, by omega, q0, h2, h3, f7.trans h4⟩
          · exact .inr ⟨y', p', by omega, h2⟩
/-- one tick of the reference -/
theorem tick_r {F : Nat} (hF : 10000000 ≤ F) {w h rl : Nat} {ki ro : Nat → Nat} (hg : g_ok w h rl ki ro) {st sn t : Nat} {sc sa sb : Nat → Nat} (hs : sn ≤ 5) (hsc : ∀ j, sc j < 64) (hsa : ∀ j, sa j ≤ 200) (hsb : ∀ j, sb j ≤ 200) (ht : t < 200) {N : Nat → Int32} (hN : ∀ y, y < 3072 → N y ≠ 0 → g_b w h (y / 48) ∧ y % 6 ≤ sn) (m : Nat) (d1 d2 d3 : Int32) (X : Nat → Int32) {b : Nat} (hb : b ≤ 5) :
    ∃ (e1 e2 e3 : Int32) (N' X' : Nat → Int32) (b' : Nat), b' ≤ 5 ∧ m_X8_could_b55 F (nI w) (nI h) (nI rl) (nI st) (nI sn) (fun j => nI (ki j)) (fun j => nI (ro j)) (fun j => nI (sc j)) (fun j => nI (sa j)) (fun j => nI (sb j)) (m + 1) d1 d2 d3 N X (nI b) (nI t) = m_X8_could_b55 F (nI w) (nI h) (nI rl) (nI st) (nI sn) (fun j => nI (ki j)) (fun j => nI (ro j)) (fun j => nI (sc j)) (fun j => nI (sa j)) (fun j => nI (sb j)) m e1 e2 e3 N' X' (nI b') (nI (t + 1)) ∧
      (∀ x, x < 3072 → (N' x ≠ 0 ↔ ∃ y' p', y' < 3072 ∧ N y' ≠ 0 ∧ p' < 5 ∧ yo w h rl ki ro t y' p' = 0 ∧ x = nx w h rl sn ki ro sc sa sb t y' p')) ∧
      b ≤ b' ∧ (∀ y' p', y' < 3072 → N y' ≠ 0 → p' < 5 → yo w h rl ki ro t y' p' ≠ 1 → nv w h sn ki sc sa sb t y' p' ≤ b') ∧ (b' = b ∨ ∃ y' p', y' < 3072 ∧ N y' ≠ 0 ∧ p' < 5 ∧ yo w h rl ki ro t y' p' ≠ 1 ∧ b' = nv w h sn ki sc sa sb t y' p') := by
  obtain ⟨X0, x1, x2⟩ := cr64 (F := F) (nI w) (nI h) (nI rl) (nI st) (nI sn) (fun j => nI (ki j)) (fun j => nI (ro j)) (fun j => nI (sc j)) (fun j => nI (sa j)) (fun j => nI (sb j)) (m_X8_could_b55 F (nI w) (nI h) (nI rl) (nI st) (nI sn) (fun j => nI (ki j)) (fun j => nI (ro j)) (fun j => nI (sc j)) (fun j => nI (sa j)) (fun j => nI (sb j)) m) d1 d2 d3 (nI b) (nI t) N F 0 X (by omega) (by omega) (fun y hy => by omega)
  obtain ⟨e1, e2, e3, X', b', f1, f2, f3, f4, f5, f6, f7⟩ := cr86 (F := F) hF hg (st := st) hs hsc hsa hsb ht (m_X8_could_b55 F (nI w) (nI h) (nI rl) (nI st) (nI sn) (fun j => nI (ki j)) (fun j => nI (ro j)) (fun j => nI (sc j)) (fun j => nI (sa j)) (fun j => nI (sb j)) m) hN F 0 d1 d2 d3 X0 b hb (fun x hx => .inl (x2 x hx)) (by omega) (by omega)
  obtain ⟨N', n1, n2⟩ := cr212 (F := F) (nI w) (nI h) (nI rl) (nI st) (nI sn) (fun j => nI (ki j)) (fun j => nI (ro j)) (fun j => nI (sc j)) (fun j => nI (sa j)) (fun j => nI (sb j)) (m_X8_could_b55 F (nI w) (nI h) (nI rl) (nI st) (nI sn) (fun j => nI (ki j)) (fun j => nI (ro j)) (fun j => nI (sc j)) (fun j => nI (sa j)) (fun j => nI (sb j)) m) e1 e2 e3 (nI b') t f2 F 0 N (by omega) (by omega) (fun y hy => by omega)
  refine ⟨e1, e2, e3, N', X', b', f1, ?_, ?_, f5, fun y' p' h1 => f6 y' p' (by omega) h1, ?_⟩
  · rw [m_X8_could_b55, if_neg (by rw [l_200]; exact nI_ge (by omega) (by decide))]
    exact (x1.trans f3).trans n1
  · intro x hx
    rw [n2 x hx, f4 x hx]
    constructor
    · rintro (h1 | ⟨y', p', h1, h2⟩)
      · exact absurd (x2 x hx) h1
      · exact ⟨y', p', h2⟩
    · rintro ⟨y', p', h2⟩
      exact .inr ⟨y', p', by omega, h2⟩
  · rcases f7 with f7 | ⟨y', p', h1, h2⟩
    · exact .inl f7
    · exact .inr ⟨y', p', h2⟩
