/-! the fewest presses: both searches in step -/
def phs (rl : Nat) : Nat := if rl = 0 then 1 else rl
def rcd (c : Nat) : Nat := (8 * (c % 64) + c / 64 % 8) * 6 + c / 512
theorem phs_b {rl : Nat} (h : rl ≤ 6) : 1 ≤ phs rl ∧ phs rl ≤ 6 := by unfold phs; split <;> omega
theorem rcd_lt {c : Nat} (h : c < 3072) : rcd c < 3072 := by unfold rcd; omega
theorem rcd_d {c : Nat} (h : c < 3072) : rcd c % 6 = c / 512 ∧ rcd c / 6 % 8 = c / 64 % 8 ∧ rcd c / 48 = c % 64 := by
  have hp : c / 512 < 6 := by omega
  have hk : c / 64 % 8 < 8 := by omega
  have ha : c % 64 < 64 := by omega
  unfold rcd
  generalize c % 64 = a at *
  generalize c / 64 % 8 = k at *
  generalize c / 512 = p at *
  omega
theorem rcd_inj {c d : Nat} (hc : c < 3072) (hd : d < 3072) (h : rcd c = rcd d) : c = d := by
  have a := rcd_d hc
  have b := rcd_d hd
  rw [h] at a
  omega
def i_q (w h rl n : Nat) (Q par by_ : Nat → Nat) (cq ccf cpr rq rcf rcb rs : Nat → Int32) : Prop :=
  (1 ≤ n ∧ n ≤ 3072) ∧ (∀ i, i < n → Q i < 512 * phs rl ∧ g_b w h (Q i % 64)) ∧ (∀ i j, i < j → j < n → Q i ≠ Q j) ∧
  (∀ i, i < n → cq i = nI (Q i) ∧ rq i = nI (rcd (Q i))) ∧
  (∀ i, 0 < i → i < n → par i < i ∧ ccf (Q i) = nI (Q (par i)) ∧ cpr (Q i) = nI (by_ i) ∧ rcf i = nI (par i) ∧ rcb i = nI (by_ i)) ∧
  (ccf (Q 0) = -1 ∧ rcf 0 = -1) ∧
  (∀ c, c < 3072 → (∀ i, i < n → Q i ≠ c) → ccf c = -2 ∧ rs (rcd c) = 0) ∧
  (∀ i, i < n → rs (rcd (Q i)) = 1)
/-- a node not met with before -/
theorem i_q_add {w h rl n : Nat} (hr : rl ≤ 6) {Q par by_ : Nat → Nat} {cq ccf cpr rq rcf rcb rs : Nat → Int32} (hq : i_q w h rl n Q par by_ cq ccf cpr rq rcf rcb rs) {c k p : Nat} (hc : c < 512 * phs rl) (hcb : g_b w h (c % 64)) (hk : k < n) (hnew : ∀ i, i < n → Q i ≠ c) :
    n < 3072 ∧ i_q w h rl (n + 1) (nu Q n c) (nu par n k) (nu by_ n p) (upd cq n (nI c)) (upd ccf c (nI (Q k))) (upd cpr c (nI p)) (upd rq n (nI (rcd c))) (upd rcf n (nI k)) (upd rcb n (nI p)) (upd rs (rcd c) 1) := by
  obtain ⟨⟨h1, h2⟩, h3, h4, h5, h6, h7, h8, h9⟩ := hq
  have hph := phs_b hr
  have hc2 : c < 3072 := by omega
  have hQ : ∀ i, i < n → Q i < 3072 := fun i hi => by have := (h3 i hi).1; omega
  have hn : n + 1 ≤ 3072 := by
    apply fb_holes 3072 (n + 1) (fun i => if i < n then Q i else c)
    · intro i hi
      split
      · rename_i q; exact hQ i q
      · exact hc2
    · intro i j hij hj
      rw [if_pos (by omega)]
      split
      · rename_i q; exact h4 i j hij q
      · exact hnew i (by omega)
  refine ⟨by omega, ⟨by omega, hn⟩, ?_, ?_, ?_, ?_, ?_, ?_, ?_⟩
  · intro i hi
    by_cases q : i = n
    · rw [q, nu_s]; exact ⟨hc, hcb⟩
    · rw [nu_n _ _ q]; exact h3 i (by omega)
  · intro i j hij hj
    rw [nu_n _ _ (show i ≠ n by omega)]
    by_cases q : j = n
    · rw [q, nu_s]; exact hnew i (by omega)
    · rw [nu_n _ _ q]; exact h4 i j hij (by omega)
  · intro i hi
    by_cases q : i = n
    · rw [q, nu_s, pk_us, pk_us]; exact ⟨rfl, rfl⟩
    · rw [nu_n _ _ q, pk_un q, pk_un q]; exact h5 i (by omega)
  · intro i hi0 hi
    by_cases q : i = n
    · rw [q, nu_s, nu_s, nu_s, pk_us, pk_us, pk_us, pk_us, nu_n _ _ (by omega)]
      exact ⟨hk, rfl, rfl, rfl, rfl⟩
    · rw [nu_n _ _ q, nu_n _ _ q, nu_n _ _ q, pk_un q, pk_un q, pk_un (hnew i (by omega)), pk_un (hnew i (by omega))]
      have := h6 i hi0 (by omega)
      rw [nu_n _ _ (by omega)]
      exact this
  · rw [nu_n _ _ (show 0 ≠ n by omega), pk_un (hnew 0 (by omega)), pk_un (show 0 ≠ n by omega)]
    exact h7
  · intro d hd hdn
    have hdc : d ≠ c := fun e => hdn n (by omega) (by rw [nu_s]; exact e.symm)
    rw [pk_un hdc, pk_un (fun e => hdc (rcd_inj hd hc2 e))]
    exact h8 d hd (fun i hi => by have := hdn i (by omega); rw [nu_n _ _ (by omega)] at this; exact this)
  · intro i hi
    by_cases q : i = n
    · rw [q, nu_s, pk_us]
    · rw [nu_n _ _ q, pk_un (fun e => hnew i (by omega) (rcd_inj (hQ i (by omega)) hc2 e))]
      exact h9 i (by omega)
theorem inner {F : Nat} {w h rl : Nat} {ki ro : Nat → Nat} (hg : g_ok w h rl ki ro) (a0 k0 t0 o0 : Nat) {x c : Nat} (k106 : Int32 → Int32 → Int32 → Int32 → (Nat → Int32) → (Nat → Int32) → (Nat → Int32) → (Nat → Int32) → (Nat → Int32) → Int32 → Int32 → Option (Int32 × Int32 × Int32 × Int32 × Int32 × (Nat → Int32) × (Nat → Int32) × (Nat → Int32) × (Nat → Int32) × (Nat → Int32))) (x3 : Int32) (rm : Int32) (row : Nat → Int32) : ∀ (m p n : Nat) (Q par by_ : Nat → Nat) (cq ccf cpr rq rcf rcb rs : Nat → Int32) (d1 d2 d3 : Int32), i_q w h rl n Q par by_ cq ccf cpr rq rcf rcb rs → x < n → Q x = c → p ≤ 5 → 5 - p < m →
    ∃ (n' : Nat) (Q' par' by' : Nat → Nat) (cq' ccf' cpr' rq' rcf' rcb' rs' : Nat → Int32) (e1 e2 e3 : Int32), i_q w h rl n' Q' par' by' cq' ccf' cpr' rq' rcf' rcb' rs' ∧ n ≤ n' ∧
      ((∃ p', p' < 5 ∧ m_X5_pressesFrom_b28 F (nI w) (nI h) (nI rl) (fun j => nI (ki j)) (fun j => nI (ro j)) (nI c) x3 m (nI n) cq ccf cpr (nI (c / 512)) (nI ((c / 512 + 1) % phs rl)) (nI p) = some (nI p', nI n', cq', ccf', cpr') ∧
        m_X8_least_b127 F (nI w) (nI h) (nI rl) (nI a0) (nI k0) (nI t0) (nI o0) (fun j => nI (ki j)) (fun j => nI (ro j)) k106 m d1 d2 d3 rm rq rcf rcb rs row (nI n) (nI x) (nI (rcd c)) (nI (c / 512)) (nI p) = m_X8_least_b160 F (nI w) (nI h) (nI rl) (nI a0) (nI k0) (nI t0) (nI o0) (fun j => nI (ki j)) (fun j => nI (ro j)) e1 e2 e3 rm rq' rcf' rcb' rs' row (nI x) (nI p')) ∨
       (m_X5_pressesFrom_b28 F (nI w) (nI h) (nI rl) (fun j => nI (ki j)) (fun j => nI (ro j)) (nI c) x3 m (nI n) cq ccf cpr (nI (c / 512)) (nI ((c / 512 + 1) % phs rl)) (nI p) = some (-1, nI n', cq', ccf', cpr') ∧
        m_X8_least_b127 F (nI w) (nI h) (nI rl) (nI a0) (nI k0) (nI t0) (nI o0) (fun j => nI (ki j)) (fun j => nI (ro j)) k106 m d1 d2 d3 rm rq rcf rcb rs row (nI n) (nI x) (nI (rcd c)) (nI (c / 512)) (nI p) = k106 e1 e2 e3 rm rq' rcf' rcb' rs' row (nI n') (nI (x + 1)))) := by
  have hr := hg.2.2.1
  have hph := phs_b hr
  intro m
  induction m with
  | zero => intro p n Q par by_ cq ccf cpr rq rcf rcb rs d1 d2 d3 _ _ _ _ h; omega
  | succ m ih =>
    intro p n Q par by_ cq ccf cpr rq rcf rcb rs d1 d2 d3 hq hx hc hp hm
    unfold m_X5_pressesFrom_b28 m_X8_least_b127
    by_cases e : p = 5
    · subst e
      refine ⟨n, Q, par, by_, cq, ccf, cpr, rq, rcf, rcb, rs, d1, d2, d3, hq, Nat.le_refl _, .inr ⟨?_, ?_⟩⟩
      · rw [if_pos (by decide)]
      · rw [if_pos (by decide), nI_1]
    · have hcx := hq.2.1 x hx
      rw [hc] at hcx
      obtain ⟨hc1, hcb⟩ := hcx
      have hc3 : c < 3072 := by omega
      have hn := hq.1
      have hk8 : c / 64 % 8 < 8 := by omega
      have hsp : nI c - nI c / (512 : Int32) * (512 : Int32) = nI (64 * (c / 64 % 8) + c % 64) := by
        rw [l_512, pk_rem (by omega) (by decide) (by decide)]; congr 1; omega
      have hra : nI (rcd c) / (48 : Int32) = nI (c % 64) := by
        rw [l_48, pk_div (by have := rcd_lt hc3; omega) (by decide) (by decide), (rcd_d hc3).2.2]
      have hrk : nI (rcd c) / (6 : Int32) - nI (rcd c) / (6 : Int32) / (8 : Int32) * (8 : Int32) = nI (c / 64 % 8) := by
        rw [l_6, pk_div (by have := rcd_lt hc3; omega) (by decide) (by decide), l_8, pk_rem (by have := rcd_lt hc3; omega) (by decide) (by decide), (rcd_d hc3).2.1]
      have hb2 := g_b_lt hg (g_to_b (k := c / 64 % 8) (p := p) hg hcb)
      have hbb := g_to_b (k := c / 64 % 8) (p := p) hg hcb
      have hk2 := kk_lt hg (a := c % 64) (t := c / 512) (p := p) hk8
      rw [if_neg (by rw [l_5]; exact nI_ge (by omega) (by decide)), if_neg (show ¬ 4 < nI p by rw [l_4]; exact nI_nlt (by omega) (by decide)), hsp, hrk, hra, g_after_c hg hcb hk8 (by omega) (by omega), g_ticks_r hg hcb hk8 (by omega) (by omega), Option.bind_some, Option.bind_some]
      dsimp only
      rw [outc ov_lt hk2 hb2, spotc ov_lt hk2 hb2, nI_1]
      have hpz : m_X8_phases (nI rl) = nI (phs rl) := by
        unfold m_X8_phases phs
        by_cases q : rl = 0
        · rw [q]; rfl
        · rw [if_neg (nI_ne0 (by omega) (by omega)), if_neg q]
      have hpn : ¬ nI (phs rl) = 0 := nI_ne0 (by omega) (by omega)
      rw [hpz, if_neg hpn, nI_1, pk_rem (by omega) (by omega) (by omega)]
      have hmod : (c / 512 + 1) % phs rl < phs rl := Nat.mod_lt _ (by omega)
      rcases (by have := ov_lt (w := w) (h := h) (rl := rl) (ki := ki) (ro := ro) (a := c % 64) (k := c / 64 % 8) (t := c / 512) (p := p); omega : g_ov w h rl ki ro (c % 64) (c / 64 % 8) (c / 512) p = 0 ∨ g_ov w h rl ki ro (c % 64) (c / 64 % 8) (c / 512) p = 1 ∨ g_ov w h rl ki ro (c % 64) (c / 64 % 8) (c / 512) p = 2) with ho | ho | ho
      · rw [ho, if_neg (show ¬ nI 0 = 2 by decide), if_pos (show nI 0 = 0 from rfl), if_neg (show ¬ nI 0 = 2 by decide), if_neg (show ¬ nI 0 = 1 by decide)]
        -- the node that is come to
        obtain ⟨c', hc'⟩ : ∃ c', c' = 512 * ((c / 512 + 1) % phs rl) + (64 * g_kk w h rl ki ro (c % 64) (c / 64 % 8) (c / 512) p + g_to w h ki (c % 64) (c / 64 % 8) p) := ⟨_, rfl⟩
        have hcc : c' < 512 * phs rl := by omega
        have hc'3 : c' < 3072 := by omega
        have hcm : c' % 64 = g_to w h ki (c % 64) (c / 64 % 8) p := by omega
        have hcn : nI ((c / 512 + 1) % phs rl) * (512 : Int32) + nI (64 * g_kk w h rl ki ro (c % 64) (c / 64 % 8) (c / 512) p + g_to w h ki (c % 64) (c / 64 % 8) p) = nI c' := by
          rw [l_512, pk_mul, nI_add]; congr 1; omega
        have hrn : (((8 : Int32) * nI (g_to w h ki (c % 64) (c / 64 % 8) p)) + nI (g_kk w h rl ki ro (c % 64) (c / 64 % 8) (c / 512) p)) * (6 : Int32) + nI ((c / 512 + 1) % phs rl) = nI (rcd c') := by
          rw [l_8, l_6, pk_mul, nI_add, pk_mul, nI_add]; congr 1; unfold rcd; omega
        have hrl := rcd_lt hc'3
        rw [hcn, hrn, if_neg (nI_in (by omega) (by decide)), if_neg (nI_in (by omega) (by decide)), nI_clamp (n := rcd c') (by omega)]
        unfold m_X5_reach
        rw [if_neg (nI_in hc'3 (by decide)), if_neg (nI_in hc'3 (by decide)), if_neg (nI_in hc'3 (by decide)), nI_clamp (n := c') (by omega)]
        by_cases hnew : ∀ i, i < n → Q i ≠ c'
        · obtain ⟨f1, f2⟩ := hq.2.2.2.2.2.2.1 c' hc'3 hnew
          obtain ⟨g1, g2⟩ := i_q_add hr hq (c := c') (k := x) (p := p) hcc (by rw [hcm]; exact hbb) hx hnew
          have hin := nI_in (c := n) (N := 3100) (by omega) (by decide)
          rw [if_pos f1, if_pos (by rw [l_3072]; exact nI_lt g1 (by decide)), if_neg (nI_in g1 (by decide)), if_pos f2, if_neg hin, if_neg hin, if_neg hin, nI_clamp (n := n) (by omega), Option.bind_some, nar1, nI_1]
          dsimp only
          rw [hc] at g2
          obtain ⟨n', Q', par', by', cq', ccf', cpr', rq', rcf', rcb', rs', e1, e2, e3, j1, j2, j3⟩ := ih (p + 1) (n + 1) _ _ _ _ _ _ _ _ _ _ (nI (g_to w h ki (c % 64) (c / 64 % 8) p)) (nI (g_kk w h rl ki ro (c % 64) (c / 64 % 8) (c / 512) p)) (nI 0) g2 (by omega) (by rw [nu_n _ _ (by omega)]; exact hc) (by omega) (by omega)
          exact ⟨n', Q', par', by', cq', ccf', cpr', rq', rcf', rcb', rs', e1, e2, e3, j1, by omega, j3⟩
        · obtain ⟨i, hi, hQi⟩ : ∃ i, i < n ∧ Q i = c' := by
            false_or_by_contra
            rename_i hn2
            exact hnew (fun i hi h => hn2 ⟨i, hi, h⟩)
          have f1 : ¬ ccf c' = -2 := by
            by_cases i0 : i = 0
            · rw [← hQi, i0, hq.2.2.2.2.2.1.1]; decide
            · rw [← hQi, (hq.2.2.2.2.1 i (by omega) hi).2.1]
              have hpi := (hq.2.2.2.2.1 i (by omega) hi).1
              have hQp := (hq.2.1 (par i) (by omega)).1
              have := n_eqm (a := Q (par i)) (b := 2) (by omega) (by decide) (by decide)
              intro h; exact (this.mp h).elim
          have f2 : ¬ rs (rcd c') = 0 := by rw [← hQi, hq.2.2.2.2.2.2.2 i hi]; decide
          rw [if_neg f1, if_neg f2, Option.bind_some]
          dsimp only
          exact ih (p + 1) n Q par by_ cq ccf cpr rq rcf rcb rs _ _ _ hq hx hc (by omega) (by omega)
      · rw [ho, if_neg (show ¬ nI 1 = 2 by decide), if_neg (show ¬ nI 1 = 0 by decide), if_neg (show ¬ nI 1 = 2 by decide), if_pos (show nI 1 = 1 from rfl)]
        exact ih (p + 1) n Q par by_ cq ccf cpr rq rcf rcb rs _ _ _ hq hx hc (by omega) (by omega)
      · rw [ho, if_pos (show nI 2 = 2 from rfl), if_pos (show nI 2 = 2 from rfl)]
        exact ⟨n, Q, par, by_, cq, ccf, cpr, rq, rcf, rcb, rs, _, _, _, hq, Nat.le_refl _, .inl ⟨p, by omega, rfl, rfl⟩⟩
