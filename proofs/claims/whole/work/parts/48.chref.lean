/-! chance, over plain numbers, and the reference's reckoning -/
def r_met (gr gt s : Nat) : Bool := decide (s / 16 = gr ∧ (s % 16) &&& gt = gt)
def r_open (fr ne br : Nat → Nat) (r s : Nat) : Bool := decide (br r = 0 ∧ fr r = s / 16 ∧ (s % 16) &&& ne r = ne r)
def r_at (T : Nat → Nat → Nat) (l d s : Nat) : Nat := if d ≤ l then T (l - d) s else 0
def r_wo (to gi ti od fa ft : Nat → Nat) (T : Nat → Nat → Nat) (l r th : Nat) : Nat :=
  if od r = 8 then r_at T l (ti r) (16 * to r + (th ||| gi r)) else (od r * r_at T l (ti r) (16 * to r + (th ||| gi r)) + (8 - od r) * r_at T l (ft r) (16 * fa r + th)) / 8
def r_an (pr : Nat) (T : Nat → Nat → Nat) (l : Nat) : Nat := if 0 < pr then r_at T l pr 0 else 0
def r_mx (pr : Nat) (fr to ne gi ti od fa ft br : Nat → Nat) (T : Nat → Nat → Nat) (l s : Nat) : Nat → Nat
  | 0 => r_an pr T l
  | n + 1 => if r_open fr ne br n s then max (r_mx pr fr to ne gi ti od fa ft br T l s n) (r_wo to gi ti od fa ft T l n (s % 16)) else r_mx pr fr to ne gi ti od fa ft br T l s n
def r_lev (rn gr gt pr : Nat) (fr to ne gi ti od fa ft br : Nat → Nat) (T : Nat → Nat → Nat) (l s : Nat) : Nat := if r_met gr gt s then 1073741824 else r_mx pr fr to ne gi ti od fa ft br T l s rn
def cvs (rn gr gt pr : Nat) (fr to ne gi ti od fa ft br : Nat → Nat) : Nat → Nat → Nat → Nat
  | 0 => fun _ _ => 0
  | n + 1 => fun l s => if l = n then r_lev rn gr gt pr fr to ne gi ti od fa ft br (cvs rn gr gt pr fr to ne gi ti od fa ft br n) n s else cvs rn gr gt pr fr to ne gi ti od fa ft br n l s
def cv (rn gr gt pr : Nat) (fr to ne gi ti od fa ft br : Nat → Nat) (l s : Nat) : Nat := cvs rn gr gt pr fr to ne gi ti od fa ft br (l + 1) l s
/-- ticks are 1 and more -/
def r_pos (rn : Nat) (ti ft : Nat → Nat) : Prop := ∀ j, j < rn → 1 ≤ ti j ∧ 1 ≤ ft j
theorem r_at_cong {T U : Nat → Nat → Nat} {l d s : Nat} (h : ∀ l', l' < l → ∀ s, T l' s = U l' s) (hd : 1 ≤ d) : r_at T l d s = r_at U l d s := by
  unfold r_at
  split
  · exact h _ (by omega) _
  · rfl
theorem r_wo_cong {to gi ti od fa ft : Nat → Nat} {T U : Nat → Nat → Nat} {l r th : Nat} (h : ∀ l', l' < l → ∀ s, T l' s = U l' s) (h1 : 1 ≤ ti r) (h2 : 1 ≤ ft r) : r_wo to gi ti od fa ft T l r th = r_wo to gi ti od fa ft U l r th := by
  unfold r_wo
  rw [r_at_cong h h1, r_at_cong h h2]
theorem r_mx_cong {pr : Nat} {fr to ne gi ti od fa ft br : Nat → Nat} {T U : Nat → Nat → Nat} {l s : Nat} (h : ∀ l', l' < l → ∀ s, T l' s = U l' s) : ∀ {n : Nat}, r_pos n ti ft → r_mx pr fr to ne gi ti od fa ft br T l s n = r_mx pr fr to ne gi ti od fa ft br U l s n
  | 0, _ => by
    unfold r_mx r_an
    split
    · exact r_at_cong h (by omega)
    · rfl
  | n + 1, hp => by
    have ih := r_mx_cong (pr := pr) (fr := fr) (to := to) (ne := ne) (gi := gi) (od := od) (fa := fa) (br := br) (s := s) h (n := n) (fun j hj => hp j (by omega))
    have h2 := hp n (by omega)
    unfold r_mx
    rw [ih, r_wo_cong h h2.1 h2.2]
theorem cvs_low {rn gr gt pr : Nat} {fr to ne gi ti od fa ft br : Nat → Nat} {l s : Nat} : ∀ {m : Nat}, l < m → cvs rn gr gt pr fr to ne gi ti od fa ft br m l s = cv rn gr gt pr fr to ne gi ti od fa ft br l s
  | 0, h => by omega
  | m + 1, h => by
    by_cases e : l = m
    · subst e; rfl
    · show (if l = m then _ else cvs rn gr gt pr fr to ne gi ti od fa ft br m l s) = _
      rw [if_neg e]
      exact cvs_low (by omega)
theorem cv_eq {rn gr gt pr : Nat} {fr to ne gi ti od fa ft br : Nat → Nat} (hp : r_pos rn ti ft) (l s : Nat) : cv rn gr gt pr fr to ne gi ti od fa ft br l s = r_lev rn gr gt pr fr to ne gi ti od fa ft br (cv rn gr gt pr fr to ne gi ti od fa ft br) l s := by
  have e : cv rn gr gt pr fr to ne gi ti od fa ft br l s = r_lev rn gr gt pr fr to ne gi ti od fa ft br (cvs rn gr gt pr fr to ne gi ti od fa ft br l) l s := if_pos rfl
  rw [e]
  unfold r_lev
  split
  · rfl
  · exact r_mx_cong (fun l' hl s' => cvs_low hl) hp
theorem r_at_le {T : Nat → Nat → Nat} {B : Nat} {l d s : Nat} (h : ∀ l', l' < l → ∀ s, T l' s ≤ B) (hd : 1 ≤ d) : r_at T l d s ≤ B := by
  unfold r_at
  split
  · exact h _ (by omega) _
  · omega
theorem r_wo_le {to gi ti od fa ft : Nat → Nat} {T : Nat → Nat → Nat} {l r th : Nat} (h : ∀ l', l' < l → ∀ s, T l' s ≤ 1073741824) (h1 : 1 ≤ ti r) (h2 : 1 ≤ ft r) (ho : od r ≤ 8) : r_wo to gi ti od fa ft T l r th ≤ 1073741824 := by
  unfold r_wo
  have a := r_at_le (s := 16 * to r + (th ||| gi r)) h h1
  have b := r_at_le (s := 16 * fa r + th) h h2
  split
  · exact a
  · have c1 : od r * r_at T l (ti r) (16 * to r + (th ||| gi r)) ≤ od r * 1073741824 := Nat.mul_le_mul_left _ a
    have c2 : (8 - od r) * r_at T l (ft r) (16 * fa r + th) ≤ (8 - od r) * 1073741824 := Nat.mul_le_mul_left _ b
    omega
theorem r_mx_le {pr : Nat} {fr to ne gi ti od fa ft br : Nat → Nat} {T : Nat → Nat → Nat} {l s : Nat} (h : ∀ l', l' < l → ∀ s, T l' s ≤ 1073741824) (ho : ∀ j, od j ≤ 8) : ∀ {n : Nat}, r_pos n ti ft → r_mx pr fr to ne gi ti od fa ft br T l s n ≤ 1073741824
  | 0, _ => by
    unfold r_mx r_an
    split
    · exact r_at_le h (by omega)
    · omega
  | n + 1, hp => by
    have ih := r_mx_le (pr := pr) (fr := fr) (to := to) (ne := ne) (gi := gi) (fa := fa) (br := br) (s := s) h ho (n := n) (fun j hj => hp j (by omega))
    have h2 := hp n (by omega)
    have h3 := r_wo_le (to := to) (gi := gi) (fa := fa) (th := s % 16) h h2.1 h2.2 (ho n)
    unfold r_mx
    split <;> omega
theorem cv_le {rn gr gt pr : Nat} {fr to ne gi ti od fa ft br : Nat → Nat} (hp : r_pos rn ti ft) (ho : ∀ j, od j ≤ 8) : ∀ (n l : Nat), l < n → ∀ s, cv rn gr gt pr fr to ne gi ti od fa ft br l s ≤ 1073741824 := by
  intro n
  induction n with
  | zero => intro l h; omega
  | succ n ih =>
    intro l hl s
    rw [cv_eq hp]
    unfold r_lev
    split
    · omega
    · exact r_mx_le (fun l' h' s' => ih l' (by omega) s') ho hp
theorem cv_b {rn gr gt pr : Nat} {fr to ne gi ti od fa ft br : Nat → Nat} (hp : r_pos rn ti ft) (ho : ∀ j, od j ≤ 8) (l s : Nat) : cv rn gr gt pr fr to ne gi ti od fa ft br l s ≤ 1073741824 := cv_le hp ho (l + 1) l (by omega) s
/-! the reference -/
theorem met_r {gr gt s : Nat} (hg : gr < 10) (hgt : gt < 16) (hs : s < 160) : m_X8_isGoal (nI gr) (nI gt) (nI (s / 16)) (nI (s % 16)) = b01 (r_met gr gt s) := by
  unfold m_X8_isGoal r_met b01
  have h1 : (s % 16) &&& gt < 2 ^ 4 := Nat.and_lt_two_pow _ (by omega)
  rw [fa_and]
  simp (disch := omega) only [nI_eq, decide_eq_true_eq]
  by_cases a : s / 16 = gr
  · by_cases b : (s % 16) &&& gt = gt
    · rw [if_pos a, if_pos b, if_pos ⟨a, b⟩]
    · rw [if_pos a, if_neg b, if_neg (fun h => b h.2)]
  · rw [if_neg a, if_neg (fun h => a h.1)]
theorem rem16 {s : Nat} (hs : s < 160) : nI s - nI s / (16 : Int32) * (16 : Int32) = nI (s % 16) := by rw [l_16, pk_rem (by omega) (by decide) (by decide)]
theorem div16 {s : Nat} (hs : s < 160) : nI s / (16 : Int32) = nI (s / 16) := by rw [l_16, pk_div (by omega) (by decide) (by decide)]
theorem canGo_r {fr ne br : Nat → Nat} (h1 : ∀ j, fr j < 10) (h2 : ∀ j, ne j < 16) (h3 : ∀ j, br j ≤ 1) {r s : Nat} (hr : r < 40) (hs : s < 160) : m_X8_canGo (fun j => nI (fr j)) (fun j => nI (ne j)) (fun j => nI (br j)) (nI r) (nI (s / 16)) (nI (s % 16)) = some (b01 (r_open fr ne br r s)) := by
  unfold m_X8_canGo r_open b01
  have a1 := h1 r
  have a2 := h2 r
  have a3 := h3 r
  have a4 : (s % 16) &&& ne r < 2 ^ 4 := Nat.and_lt_two_pow _ (by omega)
  have q := nI_in (c := r) (N := 40) hr (by decide)
  rw [if_neg q, if_neg q, if_neg q, if_neg q, nI_clamp (by omega), fa_and, l_0]
  simp (disch := omega) only [nI_eq, decide_eq_true_eq]
  by_cases a : br r = 0
  · by_cases b : fr r = s / 16
    · by_cases c : (s % 16) &&& ne r = ne r
      · rw [if_pos a, if_pos b, if_pos c, if_pos ⟨a, b, c⟩]
      · rw [if_pos a, if_pos b, if_neg c, if_neg (fun h => c h.2.2)]
    · rw [if_pos a, if_neg b, if_neg (fun h => b h.2.1)]
  · rw [if_neg a, if_neg (fun h => a h.1)]
/-- the array holds the levels below l -/
def lv_ok (C : Nat → Int32) (T : Nat → Nat → Nat) (l : Nat) : Prop := ∀ l', l' < l → ∀ s, s < 160 → C (160 * l' + s) = nI (T l' s)
theorem chOf_r {C : Nat → Int32} {T : Nat → Nat → Nat} {l : Nat} (hC : lv_ok C T l) (hl : l ≤ 300) {d r th : Nat} (hd : 1 ≤ d) (hd2 : d ≤ 100) (hr : r < 10) (ht : th < 16) :
    m_X8_chanceOf C (nI l - nI d) (nI r) (nI th) = some (nI (r_at T l d (16 * r + th))) := by
  unfold m_X8_chanceOf r_at
  by_cases q : d ≤ l
  · rw [if_pos q, pk_sub q, if_pos (nI_pos' (by omega))]
    have e : (160 : Int32) * nI (l - d) + (16 : Int32) * nI r + nI th = nI (160 * (l - d) + (16 * r + th)) := by
      rw [l_160, l_16, pk_mul, pk_mul, nI_add, nI_add]; congr 1; omega
    rw [e, if_neg (nI_in (by omega) (by decide)), nI_clamp (by omega), hC (l - d) (by omega) _ (by omega)]
  · rw [if_neg q, if_neg (by have := pk_sneg (a := l) (b := d) (by omega) (by omega); rw [fa_lt] at this; rw [fa_le]; omega)]
    rfl
theorem or16 {a b : Nat} (ha : a < 16) (hb : b < 16) : a ||| b < 16 := Nat.or_lt_two_pow (n := 4) ha hb
theorem eighths {o g b : Nat} (ho : o ≤ 8) (hg : g ≤ 1073741824) (hb : b ≤ 1073741824) : ((((nI o).toInt64 * (nI g).toInt64) + (((8 : Int32) - nI o).toInt64 * (nI b).toInt64)) / (8 : Int64)).toInt32 = nI ((o * g + (8 - o) * b) / 8) := by
  have c1 : o * g ≤ o * 1073741824 := Nat.mul_le_mul_left _ hg
  have c2 : (8 - o) * b ≤ (8 - o) * 1073741824 := Nat.mul_le_mul_left _ hb
  have e8 : (8 : Int64) = lN 8 := rfl
  rw [l_8, pk_sub ho, nI_l (by omega), nI_l (by omega), nI_l (by omega), nI_l (by omega), lN_mul, lN_mul, lN_add, e8, pk_lDiv (by omega) (by omega) (by omega), lN_i]
theorem rdCh_r {rn : Nat} {fr to ne gi ti od fa ft br : Nat → Nat} {rfa rft : Nat → Int32} (hw : i_w rn fr to ne gi ti od fa ft br rfa rft) {C : Nat → Int32} {T : Nat → Nat → Nat} {l : Nat} (hC : lv_ok C T l) (hT : ∀ l', l' < l → ∀ s, T l' s ≤ 1073741824) (hl : l ≤ 300) {r th : Nat} (hr : r < rn) (ht : th < 16) :
    m_X8_roadChance (fun j => nI (to j)) (fun j => nI (gi j)) (fun j => nI (ti j)) (fun j => nI (od j)) rfa rft C (nI r) (nI l) (nI th) = some (nI (r_wo to gi ti od fa ft T l r th)) := by
  obtain ⟨h1, h2, h3, h4⟩ := hw
  have a := h2 r
  have b := h3 r hr
  have ho := or16 ht a.2.2.2.1
  have q := nI_in (c := r) (N := 40) (by omega) (by decide)
  have b1 := r_at_le (s := 16 * to r + (th ||| gi r)) hT b.1
  have b2 := r_at_le (s := 16 * fa r + th) hT b.2.2.1
  unfold m_X8_roadChance r_wo
  simp only [if_neg q]
  rw [nI_clamp (by omega), fa_or, chOf_r hC hl b.1 (by omega) a.2.1 ho, Option.bind_some]
  by_cases q8 : od r = 8
  · rw [if_pos (show nI (od r) = 8 by rw [q8]; rfl), if_pos q8, nI_l (by omega), lN_i]
  · obtain ⟨f1, f2⟩ := b.2.2.2 (by omega)
    rw [if_neg (show ¬ nI (od r) = 8 by rw [l_8, nI_eq (by omega) (by omega)]; exact q8), if_neg q8, f1, f2, chOf_r hC hl b.2.2.1 (by omega) a.2.2.2.2.2.2.1 ht, Option.bind_some]
    rw [eighths a.2.2.2.2.2.1 b1 b2]
theorem reck44 {F : Nat} {rn gr gt pr : Nat} {fr to ne gi ti od fa ft br : Nat → Nat} {rfa rft : Nat → Int32} (hw : i_w rn fr to ne gi ti od fa ft br rfa rft) (x1 : Int32) (k2 : (Nat → Int32) → Int32 → Option (Nat → Int32)) (k9 : (Nat → Int32) → Int32 → Int32 → Option (Nat → Int32)) {C : Nat → Int32} {T : Nat → Nat → Nat} {l s : Nat} (hC : lv_ok C T l) (hT : ∀ l', l' < l → ∀ s, T l' s ≤ 1073741824) (hl : l ≤ 300) (hs : s < 160) : ∀ (m i : Nat), i ≤ rn → rn - i < m →
    m_X8_reckons_b44 F (nI rn) (nI gr) (nI gt) (nI pr) (fun j => nI (fr j)) (fun j => nI (to j)) (fun j => nI (ne j)) (fun j => nI (gi j)) (fun j => nI (ti j)) (fun j => nI (od j)) rfa rft (fun j => nI (br j)) x1 k2 k9 m C (nI l) (nI s) (nI (r_mx pr fr to ne gi ti od fa ft br T l s i)) (nI i) = m_X8_reckons_b94 F (nI rn) (nI gr) (nI gt) (nI pr) (fun j => nI (fr j)) (fun j => nI (to j)) (fun j => nI (ne j)) (fun j => nI (gi j)) (fun j => nI (ti j)) (fun j => nI (od j)) rfa rft (fun j => nI (br j)) x1 k2 k9 C (nI l) (nI s) (nI (r_mx pr fr to ne gi ti od fa ft br T l s rn)) := by
  have hn := hw.1
  have hp : r_pos rn ti ft := fun j hj => ⟨(hw.2.2.1 j hj).1, (hw.2.2.1 j hj).2.2.1⟩
  have ho : ∀ j, od j ≤ 8 := fun j => (hw.2.1 j).2.2.2.2.2.1
  intro m
  induction m with
  | zero => intro i _ h; omega
  | succ m ih =>
    intro i hi hm
    unfold m_X8_reckons_b44
    by_cases e : i = rn
    · rw [if_pos (nI_le (by omega) (by omega)), e]
    · rw [if_neg (nI_ge (by omega) (by omega)), rem16 hs, div16 hs, canGo_r (fun j => (hw.2.1 j).1) (fun j => (hw.2.1 j).2.2.1) (fun j => (hw.2.1 j).2.2.2.2.2.2.2.2) (by omega) hs, rdCh_r hw hC hT hl (by omega) (by omega), nI_1]
      simp only [Option.bind_some]
      have b1 := r_mx_le (pr := pr) (fr := fr) (to := to) (ne := ne) (gi := gi) (fa := fa) (br := br) (s := s) hT ho (n := i) (fun j hj => hp j (by omega))
      have b2 := r_wo_le (to := to) (gi := gi) (fa := fa) (th := s % 16) hT (hp i (by omega)).1 (hp i (by omega)).2 (ho i)
      have es : r_mx pr fr to ne gi ti od fa ft br T l s (i + 1) = if r_open fr ne br i s then max (r_mx pr fr to ne gi ti od fa ft br T l s i) (r_wo to gi ti od fa ft T l i (s % 16)) else r_mx pr fr to ne gi ti od fa ft br T l s i := rfl
      cases ho2 : r_open fr ne br i s
      · rw [b01_f rfl, if_pos rfl, ← ih (i + 1) (by omega) (by omega), es, ho2]
        rfl
      · rw [b01_t rfl, if_neg (show ¬ (1 : Int32) = 0 by decide), ← ih (i + 1) (by omega) (by omega), es, ho2, if_pos rfl]
        congr 1
        simp (disch := omega) only [nI_ltI]
        split
        · rw [Nat.max_def, if_pos (by omega)]
        · rw [Nat.max_def]; split
          · congr 1; omega
          · rfl
theorem reck9 {F : Nat} (hF : 10000000 ≤ F) {rn gr gt pr : Nat} {fr to ne gi ti od fa ft br : Nat → Nat} {rfa rft : Nat → Int32} (hw : i_w rn fr to ne gi ti od fa ft br rfa rft) (hgr : gr < 10) (hgt : gt < 16) (hpr : pr ≤ 100) (x1 : Int32) (k2 : (Nat → Int32) → Int32 → Option (Nat → Int32)) {l : Nat} (hl : l ≤ 300) : ∀ (m s : Nat) (C : Nat → Int32), lv_ok C (cv rn gr gt pr fr to ne gi ti od fa ft br) l → (∀ s', s' < s → C (160 * l + s') = nI (cv rn gr gt pr fr to ne gi ti od fa ft br l s')) → s ≤ 160 → 160 - s < m →
    ∃ C', m_X8_reckons_b9 F (nI rn) (nI gr) (nI gt) (nI pr) (fun j => nI (fr j)) (fun j => nI (to j)) (fun j => nI (ne j)) (fun j => nI (gi j)) (fun j => nI (ti j)) (fun j => nI (od j)) rfa rft (fun j => nI (br j)) x1 k2 m C (nI l) (nI s) = k2 C' (nI (l + 1)) ∧ lv_ok C' (cv rn gr gt pr fr to ne gi ti od fa ft br) (l + 1) := by
  have hn := hw.1
  have hp : r_pos rn ti ft := fun j hj => ⟨(hw.2.2.1 j hj).1, (hw.2.2.1 j hj).2.2.1⟩
  have ho : ∀ j, od j ≤ 8 := fun j => (hw.2.1 j).2.2.2.2.2.1
  have hT : ∀ l', l' < l → ∀ s, cv rn gr gt pr fr to ne gi ti od fa ft br l' s ≤ 1073741824 := fun l' _ s => cv_b hp ho l' s
  intro m
  induction m with
  | zero => intro s C _ _ _ h; omega
  | succ m ih =>
    intro s C hC hCs hs hm
    unfold m_X8_reckons_b9
    by_cases e : s = 160
    · subst e
      refine ⟨C, ?_, ?_⟩
      · rw [if_pos (by decide), nI_1]
      · intro l' hl' s' hs'
        by_cases q : l' = l
        · subst q; exact hCs s' hs'
        · exact hC l' (by omega) s' hs'
    · have h160 : ¬ (160 : Int32) ≤ nI s := by rw [l_160]; exact nI_ge (by omega) (by decide)
      have eb : ∀ v : Nat, v = r_an pr (cv rn gr gt pr fr to ne gi ti od fa ft br) l → m_X8_reckons_b44 F (nI rn) (nI gr) (nI gt) (nI pr) (fun j => nI (fr j)) (fun j => nI (to j)) (fun j => nI (ne j)) (fun j => nI (gi j)) (fun j => nI (ti j)) (fun j => nI (od j)) rfa rft (fun j => nI (br j)) x1 k2 (m_X8_reckons_b9 F (nI rn) (nI gr) (nI gt) (nI pr) (fun j => nI (fr j)) (fun j => nI (to j)) (fun j => nI (ne j)) (fun j => nI (gi j)) (fun j => nI (ti j)) (fun j => nI (od j)) rfa rft (fun j => nI (br j)) x1 k2 m) F C (nI l) (nI s) (nI v) (nI 0) = m_X8_reckons_b9 F (nI rn) (nI gr) (nI gt) (nI pr) (fun j => nI (fr j)) (fun j => nI (to j)) (fun j => nI (ne j)) (fun j => nI (gi j)) (fun j => nI (ti j)) (fun j => nI (od j)) rfa rft (fun j => nI (br j)) x1 k2 m (upd C (160 * l + s) (nI (cv rn gr gt pr fr to ne gi ti od fa ft br l s))) (nI l) (nI (s + 1)) := by
        rintro v rfl
        have := reck44 (F := F) (gr := gr) (gt := gt) (pr := pr) hw x1 k2 (m_X8_reckons_b9 F (nI rn) (nI gr) (nI gt) (nI pr) (fun j => nI (fr j)) (fun j => nI (to j)) (fun j => nI (ne j)) (fun j => nI (gi j)) (fun j => nI (ti j)) (fun j => nI (od j)) rfa rft (fun j => nI (br j)) x1 k2 m) (s := s) hC hT hl (by omega) F 0 (by omega) (by omega)
        refine this.trans ?_
        unfold m_X8_reckons_b94
        rw [rem16 (s := s) (by omega), div16 (by omega), met_r hgr hgt (by omega), cv_eq hp]
        have e2 : (160 : Int32) * nI l + nI s = nI (160 * l + s) := by rw [l_160, pk_mul, nI_add]
        rw [e2, if_neg (nI_in (by omega) (by decide)), if_neg (nI_in (by omega) (by decide)), nI_clamp (by omega), nI_1]
        unfold r_lev
        cases hm2 : r_met gr gt s
        · rw [b01_f rfl, if_pos rfl]; rfl
        · rw [b01_t rfl, if_neg (show ¬ (1 : Int32) = 0 by decide), if_pos rfl]; rfl
      obtain ⟨C', g1, g2⟩ := ih (s + 1) (upd C (160 * l + s) (nI (cv rn gr gt pr fr to ne gi ti od fa ft br l s))) (by
        intro l' hl' s' hs'
        rw [pk_un (by omega)]; exact hC l' hl' s' hs') (by
        intro s' hs'
        by_cases q : s' = s
        · rw [q, pk_us]
        · rw [pk_un (by omega)]; exact hCs s' (by omega)) (by omega) (by omega)
      refine ⟨C', ?_, g2⟩
      rw [if_neg h160]
      by_cases q : pr = 0
      · rw [if_pos (show nI pr ≤ 0 by rw [q]; decide)]
        refine (eb 0 (by unfold r_an; rw [if_neg (by omega)])).trans g1
      · rw [if_neg (nI_nle (by omega) (by omega))]
        have := chOf_r hC hl (d := pr) (r := 0) (th := 0) (by omega) hpr (by omega) (by omega)
        rw [show (0 : Int32) = nI 0 from rfl, this, Option.bind_some]
        refine (eb _ ?_).trans g1
        unfold r_an; rw [if_pos (by omega)]
theorem reck2 {F : Nat} (hF : 10000000 ≤ F) {rn gr gt pr : Nat} {fr to ne gi ti od fa ft br : Nat → Nat} {rfa rft : Nat → Int32} (hw : i_w rn fr to ne gi ti od fa ft br rfa rft) (hgr : gr < 10) (hgt : gt < 16) (hpr : pr ≤ 100) {x : Nat} (hx : x ≤ 300) : ∀ (m l : Nat) (C : Nat → Int32), lv_ok C (cv rn gr gt pr fr to ne gi ti od fa ft br) l → l ≤ x + 1 → x + 1 - l < m →
    ∃ C', m_X8_reckons_b2 F (nI rn) (nI gr) (nI gt) (nI pr) (fun j => nI (fr j)) (fun j => nI (to j)) (fun j => nI (ne j)) (fun j => nI (gi j)) (fun j => nI (ti j)) (fun j => nI (od j)) rfa rft (fun j => nI (br j)) (nI x) m C (nI l) = some C' ∧ lv_ok C' (cv rn gr gt pr fr to ne gi ti od fa ft br) (x + 1) := by
  intro m
  induction m with
  | zero => intro l C _ _ h; omega
  | succ m ih =>
    intro l C hC hl hm
    unfold m_X8_reckons_b2
    by_cases e : l = x + 1
    · subst e
      exact ⟨C, by rw [if_pos (nI_lt (by omega) (by omega))], hC⟩
    · obtain ⟨C1, g1, g2⟩ := reck9 (F := F) hF hw hgr hgt hpr (nI x) (m_X8_reckons_b2 F (nI rn) (nI gr) (nI gt) (nI pr) (fun j => nI (fr j)) (fun j => nI (to j)) (fun j => nI (ne j)) (fun j => nI (gi j)) (fun j => nI (ti j)) (fun j => nI (od j)) rfa rft (fun j => nI (br j)) (nI x) m) (l := l) (by omega) F 0 C hC (by intro s' h; omega) (by omega) (by omega)
      obtain ⟨C2, g3, g4⟩ := ih (l + 1) C1 g2 (by omega) (by omega)
      refine ⟨C2, ?_, g4⟩
      rw [if_neg (nI_nlt (by omega) (by omega))]
      exact g1.trans g3
theorem reck_r {F : Nat} (hF : 10000000 ≤ F) {rn gr gt pr : Nat} {fr to ne gi ti od fa ft br : Nat → Nat} {rfa rft : Nat → Int32} (hw : i_w rn fr to ne gi ti od fa ft br rfa rft) (hgr : gr < 10) (hgt : gt < 16) (hpr : pr ≤ 100) {x : Nat} (hx : x ≤ 300) (C : Nat → Int32) :
    ∃ C', m_X8_reckons F (nI rn) (nI gr) (nI gt) (nI pr) (fun j => nI (fr j)) (fun j => nI (to j)) (fun j => nI (ne j)) (fun j => nI (gi j)) (fun j => nI (ti j)) (fun j => nI (od j)) rfa rft (fun j => nI (br j)) (nI x) C = some C' ∧ lv_ok C' (cv rn gr gt pr fr to ne gi ti od fa ft br) (x + 1) :=
  reck2 hF hw hgr hgt hpr hx F 0 C (by intro l' h; omega) (by omega) (by omega)
