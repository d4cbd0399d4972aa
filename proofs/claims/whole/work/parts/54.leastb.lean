/-! the row of presses, and least -/
theorem nm1 {a : Nat} (h : a < 2 ^ 31) : ¬ nI a = -1 := fun e => ((n_eqm (a := a) (b := 1) h (by decide) (by decide)).mp e).elim
theorem rev_l {F N : Nat} (len : Int32) (hN : N < 2 ^ 31) : ∀ (m lo hi : Nat) (f : Nat → Int32), hi < N → lo ≤ hi + 1 → hi + 1 - lo < m →
    ∃ f', m_X3_reverse_b9 F len N m f (nI lo) (nI hi) = some f' ∧ ∀ q, f' q = if lo ≤ q ∧ q ≤ hi then f (lo + hi - q) else f q := by
  intro m
  induction m with
  | zero => intro lo hi f _ _ h; omega
  | succ m ih =>
    intro lo hi f hh hl hm
    unfold m_X3_reverse_b9
    by_cases e : hi ≤ lo
    · refine ⟨f, by rw [if_pos (nI_le e (by omega))], fun q => ?_⟩
      by_cases c : lo ≤ q ∧ q ≤ hi
      · rw [if_pos c]; congr 1; omega
      · rw [if_neg c]
    · have h1 := nI_in (c := lo) (N := N) (by omega) hN
      have h2 := nI_in (c := hi) (N := N) (by omega) hN
      rw [if_neg (nI_ge (by omega) (by omega)), if_neg h1, if_neg h2, if_neg h1, if_neg h2, nI_clamp (n := lo) (by omega), nI_clamp (n := hi) (by omega), nI_1]
      have em : nI hi + -1 = nI (hi - 1) := sb_m1 (by omega)
      rw [em]
      obtain ⟨f', g1, g2⟩ := ih (lo + 1) (hi - 1) (upd (upd f lo (f hi)) hi (f lo)) (by omega) (by omega) (by omega)
      refine ⟨f', g1, fun q => ?_⟩
      rw [g2]
      by_cases c1 : q = lo
      · subst c1
        rw [if_neg (by omega), pk_un (by omega), pk_us, if_pos (by omega)]; congr 1; omega
      · by_cases c2 : q = hi
        · subst c2
          rw [if_neg (by omega), pk_us, if_pos (by omega)]; congr 1; omega
        · by_cases c3 : lo ≤ q ∧ q ≤ hi
          · rw [if_pos (by omega), if_pos c3, pk_un (by omega), pk_un (by omega)]; congr 1; omega
          · rw [if_neg (by omega), if_neg c3, pk_un c2, pk_un c1]
/-- the way back from place x of the queue, of class and reference -/
theorem way {F : Nat} {w h rl n : Nat} (hr : rl ≤ 6) {Q par by_ : Nat → Nat} {cq ccf cpr rq rcf rcb rs : Nat → Int32} (hq : i_q w h rl n Q par by_ cq ccf cpr rq rcf rcb rs) (nd pr rx ry : Int32) : ∀ (y x : Nat), x < y → x < n →
    ∃ (d : Nat) (u : Nat → Nat), d ≤ x ∧
      (∀ (m len v : Nat) (row : Nat → Int32), x < m → len + x ≤ 3072 → v + x < 3072 → ∃ row', m_X5_writeRow_b14 F ccf cpr nd pr m (nI len) row (nI (Q x)) (nI v) = m_X5_writeRow_b58 F ccf cpr nd pr (nI (len + d)) row' ∧ ∀ q, row' q = if len ≤ q ∧ q < len + d then nI (u (q - len)) else row q) ∧
      (∀ (m v : Nat) (rm : Int32) (row : Nat → Int32), x < m → m_X8_rows_b5 F rcf rcb rx ry m rm row (nI v) (nI x) = m_X8_rows_b31 F rcf rcb rx ry rm row (nI (v + d))) ∧
      (∀ (m v : Nat) (rm : Int32) (row : Nat → Int32), x < m → d ≤ v → v ≤ 3100 → ∃ row', m_X8_rows_b49 F rcf rcb rx ry m rm row (nI v) (nI x) = some (rm, row') ∧ ∀ q, row' q = if v - d ≤ q ∧ q < v then nI (u (v - 1 - q)) else row q) := by
  obtain ⟨⟨h1, h2⟩, h3, h4, h5, h6, h7, h8, h9⟩ := hq
  have hph := phs_b hr
  intro y
  induction y with
  | zero => intro x hx; omega
  | succ y ih =>
    intro x hx hxn
    have hQx : Q x < 3072 := by have := (h3 x hxn).1; omega
    by_cases x0 : x = 0
    · subst x0
      refine ⟨0, fun _ => 0, by omega, ?_, ?_, ?_⟩
      · intro m len v row hm _ _
        obtain ⟨m', rfl⟩ : ∃ m', m = m' + 1 := ⟨m - 1, by omega⟩
        refine ⟨row, ?_, fun q => by rw [if_neg (by omega)]⟩
        unfold m_X5_writeRow_b14
        rw [if_neg (by rw [l_3072]; exact nI_ge (by omega) (by decide)), if_neg (nI_in hQx (by decide)), nI_clamp (by omega), h7.1, if_pos (by decide)]
        rfl
      · intro m v rm row hm
        obtain ⟨m', rfl⟩ : ∃ m', m = m' + 1 := ⟨m - 1, by omega⟩
        unfold m_X8_rows_b5
        rw [if_neg (nI_in (by omega) (by decide)), nI_clamp (by omega), h7.2, if_pos rfl]
        rfl
      · intro m v rm row hm _ _
        obtain ⟨m', rfl⟩ : ∃ m', m = m' + 1 := ⟨m - 1, by omega⟩
        refine ⟨row, ?_, fun q => by rw [if_neg (by omega)]⟩
        unfold m_X8_rows_b49
        rw [if_neg (nI_in (by omega) (by decide)), nI_clamp (by omega), h7.2, if_pos rfl]
    · obtain ⟨p1, p2, p3, p4, p5⟩ := h6 x (by omega) hxn
      have hQp : Q (par x) < 3072 := by have := (h3 (par x) (by omega)).1; omega
      obtain ⟨d, u, a1, a2, a3, a4⟩ := ih (par x) (by omega) (by omega)
      refine ⟨d + 1, fun e => if e = 0 then by_ x else u (e - 1), by omega, ?_, ?_, ?_⟩
      · intro m len v row hm hl hv
        obtain ⟨m', rfl⟩ : ∃ m', m = m' + 1 := ⟨m - 1, by omega⟩
        obtain ⟨row', b1, b2⟩ := a2 m' (len + 1) (v + 1) (upd row len (nI (by_ x))) (by omega) (by omega) (by omega)
        refine ⟨row', ?_, fun q => ?_⟩
        · unfold m_X5_writeRow_b14
          have hin := nI_in (c := Q x) (N := 3072) hQx (by decide)
          rw [if_neg (by rw [l_3072]; exact nI_ge (by omega) (by decide))]
          simp only [if_neg hin]
          rw [nI_clamp (by omega), p2, if_neg (nI_pos (by omega)), p3, add_c (by decide) (by omega), if_pos (by omega), Option.bind_some, nI_1]
          dsimp only
          rw [b1]
          congr 2; omega
        · rw [b2]
          dsimp only
          by_cases c1 : q = len
          · subst c1
            rw [if_neg (by omega), pk_us, if_pos (by omega), Nat.sub_self, if_pos rfl]
          · rw [pk_un c1]
            by_cases c2 : len + 1 ≤ q ∧ q < len + 1 + d
            · rw [if_pos c2, if_pos (by omega), if_neg (by omega), show q - len - 1 = q - (len + 1) by omega]
            · rw [if_neg c2, if_neg (by omega)]
      · intro m v rm row hm
        obtain ⟨m', rfl⟩ : ∃ m', m = m' + 1 := ⟨m - 1, by omega⟩
        unfold m_X8_rows_b5
        rw [if_neg (nI_in (by omega) (by decide)), if_neg (nI_in (by omega) (by decide)), nI_clamp (by omega), p4, if_neg (nm1 (by omega)), nI_1, a3 m' (v + 1) rm row (by omega)]
        congr 2; omega
      · intro m v rm row hm hd hv
        obtain ⟨m', rfl⟩ : ∃ m', m = m' + 1 := ⟨m - 1, by omega⟩
        obtain ⟨row', b1, b2⟩ := a4 m' (v - 1) rm (upd row (v - 1) (nI (by_ x))) (by omega) (by omega) (by omega)
        refine ⟨row', ?_, fun q => ?_⟩
        · unfold m_X8_rows_b49
          have hin := nI_in (c := x) (N := 3100) (by omega) (by decide)
          have em : nI v + -1 = nI (v - 1) := sb_m1 (by omega)
          simp only [if_neg hin]
          rw [nI_clamp (n := x) (by omega), p4, if_neg (nm1 (by omega)), em, if_neg (nI_in (by omega) (by decide)), nI_clamp (n := v - 1) (by omega), p5]
          exact b1
        · rw [b2]
          dsimp only
          by_cases c1 : q = v - 1
          · subst c1
            rw [if_neg (by omega), pk_us, if_pos (by omega), show v - 1 - (v - 1) = 0 by omega, if_pos rfl]
          · rw [pk_un c1]
            by_cases c2 : v - 1 - d ≤ q ∧ q < v - 1
            · rw [if_pos c2, if_pos (by omega), if_neg (by omega)]; congr 2; omega
            · rw [if_neg c2, if_neg (by omega)]
theorem rows_both {F : Nat} (hF : 10000000 ≤ F) {w h rl n : Nat} (hr : rl ≤ 6) {Q par by_ : Nat → Nat} {cq ccf cpr rq rcf rcb rs : Nat → Int32} (hq : i_q w h rl n Q par by_ cq ccf cpr rq rcf rcb rs) {x p : Nat} (hx : x < n) (rm : Int32) (crow rrow : Nat → Int32) :
    ∃ (len : Nat) (crow' rrow' : Nat → Int32), 1 ≤ len ∧ len ≤ 3072 ∧ m_X5_writeRow F ccf cpr (nI (Q x)) (nI p) (nI 0) crow = some (nI len, crow') ∧ m_X8_rows F rcf rcb (nI x) (nI p) rm rrow = some (nI len, rrow') ∧ ∀ j, j < len → crow' j = rrow' j := by
  have hn := hq.1
  obtain ⟨d, u, a1, a2, a3, a4⟩ := way (F := F) hr hq (nI (Q x)) (nI p) (nI x) (nI p) (x + 1) x (by omega) hx
  obtain ⟨row1, b1, b2⟩ := a2 F 1 0 (upd crow 0 (nI p)) (by omega) (by omega) (by omega)
  obtain ⟨row2, c1, c2⟩ := rev_l (F := F) (N := 3072) (nI (1 + d)) (by decide) F 0 d row1 (by omega) (by omega) (by omega)
  have e1 := a3 F 1 rm rrow (by omega)
  obtain ⟨row3, f1, f2⟩ := a4 F d (nI (1 + d)) (upd rrow d (nI p)) (by omega) (by omega) (by omega)
  refine ⟨1 + d, row2, row3, by omega, by omega, ?_, ?_, ?_⟩
  · unfold m_X5_writeRow
    rw [add_c (by decide) (by omega), if_pos (by omega), Option.bind_some]
    dsimp only
    have b1' : m_X5_writeRow_b14 F ccf cpr (nI (Q x)) (nI p) F (nI (0 + 1)) (upd crow 0 (nI p)) (nI (Q x)) 0 = m_X5_writeRow_b58 F ccf cpr (nI (Q x)) (nI p) (nI (1 + d)) row1 := b1
    rw [b1']
    unfold m_X5_writeRow_b58 m_X3_reverse
    have e : nI (1 + d) - 1 = nI d := by rw [l_1, pk_sub (by omega)]; congr 1; omega
    have c1' : m_X3_reverse_b9 F (nI (1 + d)) 3072 F row1 0 (nI d) = some row2 := c1
    rw [e, c1', Option.bind_some]
  · unfold m_X8_rows
    have e1' : m_X8_rows_b5 F rcf rcb (nI x) (nI p) F rm rrow 1 (nI x) = m_X8_rows_b31 F rcf rcb (nI x) (nI p) rm rrow (nI (1 + d)) := e1
    rw [e1']
    unfold m_X8_rows_b31
    have em : nI (1 + d) + -1 = nI d := by
      have : nI (1 + d) + -1 = nI (1 + d - 1) := sb_m1 (by omega)
      rw [this]; congr 1; omega
    rw [em, if_neg (nI_in (by omega) (by decide)), nI_clamp (by omega)]
    exact f1
  · intro j hj
    rw [c2, f2, if_pos (by omega), b2]
    by_cases q : j < d
    · rw [if_pos (by omega), if_pos (by omega)]; congr 2; omega
    · rw [if_neg (by omega), if_neg (by omega), show 0 + d - j = 0 by omega, show j = d by omega, pk_us, pk_us]
theorem outer {F : Nat} (hF : 10000000 ≤ F) {w h rl : Nat} {ki ro : Nat → Nat} (hg : g_ok w h rl ki ro) (a0 k0 t0 o0 : Nat) (x2 x3 : Int32) (crow rrow : Nat → Int32) : ∀ (m i n : Nat) (Q par by_ : Nat → Nat) (cq ccf cpr rq rcf rcb rs : Nat → Int32) (d1 d2 d3 : Int32), i_q w h rl n Q par by_ cq ccf cpr rq rcf rcb rs → i ≤ n → 3072 - i < m →
    ∃ (n' len : Nat) (r : Int32) (crow' rrow' cq' ccf' cpr' rq' rcf' rcb' rs' : Nat → Int32) (e1 e2 e3 : Int32), len ≤ 3072 ∧ (∀ j, j < len → crow' j = rrow' j) ∧
      ((∃ b : Int32, m_X5_find_b45 F (nI w) (nI h) (nI rl) (fun j => nI (ki j)) (fun j => nI (ro j)) x2 x3 m (nI n) cq ccf cpr (nI 0) crow (nI (phs rl)) (nI i) = some (b, nI n', cq', ccf', cpr', nI len, crow') ∧ (if b = 0 then (-1 : Int32) else nI len) = r) ∧
       m_X8_least_b106 F (nI w) (nI h) (nI rl) (nI a0) (nI k0) (nI t0) (nI o0) (fun j => nI (ki j)) (fun j => nI (ro j)) m d1 d2 d3 (nI 0) rq rcf rcb rs rrow (nI n) (nI i) = some (r, e1, e2, e3, nI len, rq', rcf', rcb', rs', rrow')) := by
  have hr := hg.2.2.1
  have hph := phs_b hr
  intro m
  induction m with
  | zero => intro i n Q par by_ cq ccf cpr rq rcf rcb rs d1 d2 d3 _ _ h; omega
  | succ m ih =>
    intro i n Q par by_ cq ccf cpr rq rcf rcb rs d1 d2 d3 hq hi hm
    have hn := hq.1
    unfold m_X5_find_b45 m_X8_least_b106
    by_cases e : i = n
    · refine ⟨n, 0, -1, crow, rrow, cq, ccf, cpr, rq, rcf, rcb, rs, d1, d2, d3, by omega, fun j hj => by omega, ⟨0, ?_, rfl⟩, ?_⟩
      · rw [if_pos (nI_le (by omega) (by omega))]
      · rw [if_pos (nI_le (by omega) (by omega))]
    · have hQi := hq.2.1 i (by omega)
      have hqi := hq.2.2.2.1 i (by omega)
      have hc3 : Q i < 3072 := by omega
      have hrl := rcd_lt hc3
      rw [if_neg (nI_ge (by omega) (by omega)), if_neg (by rw [l_3072]; exact nI_ge (by omega) (by decide)), if_neg (nI_in (by omega) (by decide)), if_neg (nI_ge (by omega) (by omega)), if_neg (nI_in (by omega) (by decide)), nI_clamp (by omega), hqi.1, hqi.2]
      have e6 : nI (rcd (Q i)) - nI (rcd (Q i)) / (6 : Int32) * (6 : Int32) = nI (Q i / 512) := by
        rw [l_6, pk_rem (by omega) (by decide) (by decide), (rcd_d hc3).1]
      rw [e6]
      obtain ⟨n', Q', par', by', cq', ccf', cpr', rq', rcf', rcb', rs', e1, e2, e3, j1, j2, j3⟩ := inner (F := F) hg a0 k0 t0 o0 (x := i) (c := Q i) (m_X8_least_b106 F (nI w) (nI h) (nI rl) (nI a0) (nI k0) (nI t0) (nI o0) (fun j => nI (ki j)) (fun j => nI (ro j)) m) (nI (phs rl)) (nI 0) rrow F 0 n Q par by_ cq ccf cpr rq rcf rcb rs d1 d2 d3 hq (by omega) rfl (by omega) (by omega)
      have hpf : ∀ o, m_X5_pressesFrom_b28 F (nI w) (nI h) (nI rl) (fun j => nI (ki j)) (fun j => nI (ro j)) (nI (Q i)) (nI (phs rl)) F (nI n) cq ccf cpr (nI (Q i / 512)) (nI ((Q i / 512 + 1) % phs rl)) (nI 0) = o → m_X5_pressesFrom F (nI w) (nI h) (nI rl) (fun j => nI (ki j)) (fun j => nI (ro j)) (nI (Q i)) (nI (phs rl)) (nI n) cq ccf cpr = o := by
        intro o ho
        rw [← ho]
        unfold m_X5_pressesFrom
        have e5 : nI (Q i) / (512 : Int32) = nI (Q i / 512) := by rw [l_512, pk_div (by omega) (by decide) (by decide)]
        rw [e5, nI_1]
        by_cases q : phs rl ≤ Q i / 512 + 1
        · have e7 : (Q i / 512 + 1) % phs rl = 0 := by
            have : Q i / 512 + 1 = phs rl := by omega
            rw [this, Nat.mod_self]
          rw [if_pos (nI_le q (by omega)), e7]; rfl
        · rw [if_neg (nI_ge (by omega) (by omega)), Nat.mod_eq_of_lt (by omega)]; rfl
      rcases j3 with ⟨p', hp', k1, k2⟩ | ⟨k1, k2⟩
      · have hx' : i < n' := by omega
        obtain ⟨len, crow', rrow', l1, l2, l3, l4, l5⟩ := rows_both (F := F) hF hr j1 (x := i) (p := p') hx' (nI 0) crow rrow
        have hqi' := j1.2.2.2.1 i hx'
        refine ⟨n', len, nI len, crow', rrow', cq', ccf', cpr', rq', rcf', rcb', rs', e1, e2, e3, l2, l5, ⟨1, ?_, rfl⟩, ?_⟩
        · rw [hpf _ k1, Option.bind_some]
          dsimp only
          rw [if_neg (nm1 (by omega))]
          unfold m_X5_find_b84
          rw [if_neg (nI_in (by omega) (by decide)), nI_clamp (by omega), hqi'.1, l3, Option.bind_some]
        · have k2' : m_X8_least_b127 F (nI w) (nI h) (nI rl) (nI a0) (nI k0) (nI t0) (nI o0) (fun j => nI (ki j)) (fun j => nI (ro j)) (m_X8_least_b106 F (nI w) (nI h) (nI rl) (nI a0) (nI k0) (nI t0) (nI o0) (fun j => nI (ki j)) (fun j => nI (ro j)) m) F d1 d2 d3 (nI 0) rq rcf rcb rs rrow (nI n) (nI i) (nI (rcd (Q i))) (nI (Q i / 512)) 0 = m_X8_least_b160 F (nI w) (nI h) (nI rl) (nI a0) (nI k0) (nI t0) (nI o0) (fun j => nI (ki j)) (fun j => nI (ro j)) e1 e2 e3 (nI 0) rq' rcf' rcb' rs' rrow (nI i) (nI p') := k2
          rw [k2']
          unfold m_X8_least_b160
          rw [l4, Option.bind_some]
      · obtain ⟨n2, len, r, crow', rrow', cq2, ccf2, cpr2, rq2, rcf2, rcb2, rs2, f1, f2, f3, g1, g2, ⟨b, g3, g4⟩, g5⟩ := ih (i + 1) n' Q' par' by' cq' ccf' cpr' rq' rcf' rcb' rs' e1 e2 e3 j1 (by omega) (by omega)
        refine ⟨n2, len, r, crow', rrow', cq2, ccf2, cpr2, rq2, rcf2, rcb2, rs2, f1, f2, f3, g1, g2, ⟨b, ?_, g4⟩, ?_⟩
        · rw [hpf _ k1, Option.bind_some]
          dsimp only
          rw [if_pos rfl, nI_1]
          exact g3
        · have k2' : m_X8_least_b127 F (nI w) (nI h) (nI rl) (nI a0) (nI k0) (nI t0) (nI o0) (fun j => nI (ki j)) (fun j => nI (ro j)) (m_X8_least_b106 F (nI w) (nI h) (nI rl) (nI a0) (nI k0) (nI t0) (nI o0) (fun j => nI (ki j)) (fun j => nI (ro j)) m) F d1 d2 d3 (nI 0) rq rcf rcb rs rrow (nI n) (nI i) (nI (rcd (Q i))) (nI (Q i / 512)) 0 = m_X8_least_b106 F (nI w) (nI h) (nI rl) (nI a0) (nI k0) (nI t0) (nI o0) (fun j => nI (ki j)) (fun j => nI (ro j)) m e1 e2 e3 (nI 0) rq' rcf' rcb' rs' rrow (nI n') (nI (i + 1)) := k2
          rw [k2']
          exact g5
theorem seen0 {F : Nat} (w h rl a k t o : Int32) (ki ro : Nat → Int32) (d1 d2 d3 rm : Int32) (rq rcf rcb row : Nat → Int32) : ∀ (m i : Nat) (rs : Nat → Int32), i ≤ 3100 → 3100 - i < m → (∀ j, j < i → rs j = 0) →
    ∃ rs', m_X8_least_b32 F w h rl a k t o ki ro m d1 d2 d3 rm rq rcf rcb rs row (nI i) = m_X8_least_b52 F w h rl a k t o ki ro d1 d2 d3 rm rq rcf rcb rs' row ∧ ∀ j, j < 3100 → rs' j = 0 := by
  intro m
  induction m with
  | zero => intro i rs _ h; omega
  | succ m ih =>
    intro i rs hi hm hs
    unfold m_X8_least_b32
    by_cases e : i = 3100
    · subst e
      exact ⟨rs, by rw [if_pos (by decide)], hs⟩
    · rw [if_neg (by rw [l_3100]; exact nI_ge (by omega) (by decide)), if_neg (nI_in (by omega) (by decide)), nI_clamp (by omega), nar0, nI_1]
      refine ih (i + 1) _ (by omega) (by omega) ?_
      intro j hj
      by_cases c : j = i
      · rw [c, pk_us]
      · rw [pk_un c]; exact hs j (by omega)
theorem b_least {F : Nat} (hF : 10000000 ≤ F) {w h rl : Nat} {ki ro : Nat → Nat} (hg : g_ok w h rl ki ro) {a0 k0 t0 o0 : Nat} (hrr : i_r w h a0 k0 t0 o0) (qd : Int32) (cq ccf cpr crow : Nat → Int32) (cl0 : Int32) (d1 d2 d3 rm : Int32) (rq rcf rcb rs rrow : Nat → Int32) :
    ∃ (r qd' : Int32) (len : Nat) (crow' rrow' cq' ccf' cpr' rq' rcf' rcb' rs' : Nat → Int32) (e1 e2 e3 : Int32), len ≤ 3072 ∧ (∀ j, j < len → crow' j = rrow' j) ∧
      m_X7_least F (nI w) (nI h) (nI rl) (fun j => nI (ki j)) (fun j => nI (ro j)) (nI (64 * k0 + a0)) (nI o0) (nI t0) qd cq ccf cpr cl0 crow = some (r, qd', cq', ccf', cpr', nI len, crow') ∧
      m_X8_least F (nI w) (nI h) (nI rl) (nI a0) (nI k0) (nI t0) (nI o0) (fun j => nI (ki j)) (fun j => nI (ro j)) d1 d2 d3 rm rq rcf rcb rs rrow = some (r, e1, e2, e3, nI len, rq', rcf', rcb', rs', rrow') := by
  obtain ⟨ha, hk, ht, ho⟩ := hrr
  have hr := hg.2.2.1
  have hph := phs_b hr
  have hb := g_b_lt hg ha
  unfold m_X7_least m_X8_least m_X3_clear
  rw [Option.bind_some]
  rcases (by omega : o0 = 0 ∨ o0 = 1 ∨ o0 = 2) with rfl | rfl | rfl
  · rw [if_neg (show ¬ nI 0 = 1 by decide), if_neg (show ¬ nI 0 = 2 by decide), if_neg (show ¬ nI 0 = 1 by decide), if_neg (show ¬ nI 0 = 2 by decide)]
    obtain ⟨rs0, s1, s2⟩ := seen0 (F := F) (nI w) (nI h) (nI rl) (nI a0) (nI k0) (nI t0) (nI 0) (fun j => nI (ki j)) (fun j => nI (ro j)) d1 d2 d3 (nI 0) rq rcf rcb rrow F 0 rs (by omega) (by omega) (fun j hj => by omega)
    have s1' : m_X8_least_b32 F (nI w) (nI h) (nI rl) (nI a0) (nI k0) (nI t0) (nI 0) (fun j => nI (ki j)) (fun j => nI (ro j)) F d1 d2 d3 0 rq rcf rcb rs rrow 0 = m_X8_least_b52 F (nI w) (nI h) (nI rl) (nI a0) (nI k0) (nI t0) (nI 0) (fun j => nI (ki j)) (fun j => nI (ro j)) d1 d2 d3 (nI 0) rq rcf rcb rs0 rrow := s1
    rw [s1']
    have hmod : t0 % phs rl < phs rl := Nat.mod_lt _ (by omega)
    obtain ⟨c, hc⟩ : ∃ c, c = 512 * (t0 % phs rl) + (64 * k0 + a0) := ⟨_, rfl⟩
    have hc3 : c < 3072 := by omega
    have hcl : c < 512 * phs rl := by omega
    have hcm : c % 64 = a0 := by omega
    have hrl := rcd_lt hc3
    have eph : (if nI rl < (1 : Int32) then (1 : Int32) else nI rl) = nI (phs rl) := by
      unfold phs
      by_cases q : rl = 0
      · rw [q]; rfl
      · rw [if_neg (show ¬ nI rl < 1 by rw [l_1]; exact nI_nlt (by omega) (by omega)), if_neg q]
    have hpz : m_X8_phases (nI rl) = nI (phs rl) := by
      unfold m_X8_phases phs
      by_cases q : rl = 0
      · rw [q]; rfl
      · rw [if_neg (nI_ne0 (by omega) (by omega)), if_neg q]
    have hcn : nI (t0 % phs rl) * (512 : Int32) + nI (64 * k0 + a0) = nI c := by
      rw [l_512, pk_mul, nI_add]; congr 1; omega
    have hrn : (((8 : Int32) * nI a0) + nI k0) * (6 : Int32) + nI (t0 % phs rl) = nI (rcd c) := by
      rw [l_8, l_6, pk_mul, nI_add, pk_mul, nI_add]; congr 1; unfold rcd; omega
    -- the root
    have hroot : i_q w h rl 1 (fun _ => c) (fun _ => 0) (fun _ => 0) (upd cq 0 (nI c)) (upd (fun j => if j < 3072 then -2 else ccf j) c (-1)) (upd cpr c 0) (upd rq 0 (nI (rcd c))) (upd rcf 0 (-1)) rcb (upd rs0 (rcd c) 1) := by
      refine ⟨by omega, fun i hi => ⟨hcl, by rw [hcm]; exact ha⟩, fun i j _ hj => by omega, fun i hi => ?_, fun i h1 h2 => by omega, ⟨pk_us, pk_us⟩, ?_, fun i hi => pk_us⟩
      · rw [show i = 0 by omega, pk_us, pk_us]; exact ⟨rfl, rfl⟩
      · intro d hd hdn
        have hdc : d ≠ c := fun e => hdn 0 (by omega) e.symm
        rw [pk_un hdc, pk_un (fun e => hdc (rcd_inj hd hc3 e)), s2 _ (by have := rcd_lt hd; omega)]
        exact ⟨if_pos hd, rfl⟩
    obtain ⟨n', len, r, crow', rrow', cq', ccf', cpr', rq', rcf', rcb', rs', e1, e2, e3, g1, g2, ⟨b, g3, g4⟩, g5⟩ := outer (F := F) hF hg a0 k0 t0 0 (nI (64 * k0 + a0)) (nI t0) crow rrow F 0 1 _ _ _ _ _ _ _ _ _ _ d1 d2 d3 hroot (by omega) (by omega)
    refine ⟨r, nI n', len, crow', rrow', cq', ccf', cpr', rq', rcf', rcb', rs', e1, e2, e3, g1, g2, ?_, ?_⟩
    · unfold m_X5_find m_X5_reach
      rw [fill_I _ _ (by decide) (by omega), eph, n_fmod (by omega) (by omega) (by omega)]
      simp only [Option.bind_some]
      have hin := nI_in (c := c) (N := 3072) hc3 (by decide)
      rw [hcn]
      simp only [if_neg hin]
      rw [nI_clamp (n := c) (by omega), if_pos hc3, if_pos rfl, if_pos (by decide), if_neg (by decide)]
      simp only [Option.bind_some]
      have g3' : m_X5_find_b45 F (nI w) (nI h) (nI rl) (fun j => nI (ki j)) (fun j => nI (ro j)) (nI (64 * k0 + a0)) (nI t0) F (0 + 1) (upd cq (0 : Int32).toNatClampNeg (nI c)) (upd (fun j => if j < 3072 then -2 else ccf j) c (-1)) (upd cpr c 0) 0 crow (nI (phs rl)) 0 = some (b, nI n', cq', ccf', cpr', nI len, crow') := g3
      rw [g3', Option.bind_some]
      dsimp only
      by_cases q : b = 0
      · rw [if_pos q]; rw [if_pos q] at g4; rw [g4]
      · rw [if_neg q]; rw [if_neg q] at g4; rw [g4]
    · unfold m_X8_least_b52
      have e0 : (0 : Int32).toNatClampNeg = 0 := rfl
      rw [hpz, if_neg (nI_ne0 (by omega) (by omega)), pk_rem (by omega) (by omega) (by omega), hrn, e0, pk_us, if_neg (nI_in (by omega) (by decide)), nI_clamp (by omega), nar1]
      exact g5
  · rw [if_pos (show nI 1 = 1 from rfl), if_pos (show nI 1 = 1 from rfl)]
    exact ⟨-1, qd, 0, crow, rrow, cq, ccf, cpr, rq, rcf, rcb, rs, d1, d2, d3, by omega, fun j hj => by omega, rfl, rfl⟩
  · rw [if_neg (show ¬ nI 2 = 1 by decide), if_pos (show nI 2 = 2 from rfl), if_neg (show ¬ nI 2 = 1 by decide), if_pos (show nI 2 = 2 from rfl)]
    exact ⟨0, qd, 0, crow, rrow, cq, ccf, cpr, rq, rcf, rcb, rs, d1, d2, d3, by omega, fun j hj => by omega, rfl, rfl⟩
