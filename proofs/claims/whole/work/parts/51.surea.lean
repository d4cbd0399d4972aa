/-! the fewest ticks by sure roads: relaxing, over plain numbers (0: none, d + 1: d ticks) -/
def e1 (n : Nat) : Int32 := if n = 0 then -nI 1 else nI (n - 1)
theorem e1_0 : e1 0 = -1 := rfl
theorem e1_p {n : Nat} (h : n ≠ 0) : e1 n = nI (n - 1) := if_neg h
theorem e1_m {n : Nat} (h : n < 2 ^ 31) : e1 n = -1 ↔ n = 0 := by
  by_cases c : n = 0
  · rw [c]; exact ⟨fun _ => rfl, fun _ => rfl⟩
  · rw [e1_p c]
    have := n_eqm (a := n - 1) (b := 1) (by omega) (by decide) (by decide)
    exact ⟨fun h => (this.mp h).elim, fun h => absurd h c⟩
theorem e1_add {n t : Nat} (h : n ≠ 0) : e1 n + nI t = e1 (n + t) := by
  rw [e1_p h, e1_p (by omega), nI_add]; congr 1; omega
theorem e1_le {n m : Nat} (h : n ≠ 0) (k : m ≠ 0) (hn : n < 2 ^ 31) (hm : m < 2 ^ 31) : e1 n ≤ e1 m ↔ n ≤ m := by
  rw [e1_p h, e1_p k, nI_leI (by omega) (by omega)]; omega
theorem e1_lt {n m : Nat} (h : n ≠ 0) (k : m ≠ 0) (hn : n < 2 ^ 31) (hm : m < 2 ^ 31) : e1 n < e1 m ↔ n < m := by
  rw [e1_p h, e1_p k, nI_ltI (by omega) (by omega)]; omega
theorem e1_upd (D : Nat → Nat) (k v : Nat) : upd (fun j => e1 (D j)) k (e1 v) = fun j => e1 (nu D k v j) := by
  funext j
  unfold upd nu
  split <;> rfl
/-- a sure road that can be gone from a stand -/
def ed (rn : Nat) (fr ne od br : Nat → Nat) (r s : Nat) : Prop := r < rn ∧ od r = 8 ∧ r_open fr ne br r s = true
def tg (to gi : Nat → Nat) (r s : Nat) : Nat := 16 * to r + ((s % 16) ||| gi r)
theorem tg_lt {to gi : Nat → Nat} {r s : Nat} (h1 : to r < 10) (h2 : gi r < 16) : tg to gi r s < 160 := by
  have := or16 (show s % 16 < 16 by omega) h2
  unfold tg; omega
def wk (rn : Nat) (fr to ne gi ti od br : Nat → Nat) : Nat → Nat → Nat → Prop
  | 0, s, d => s = 0 ∧ d = 1
  | n + 1, s, d => ∃ s' r d', wk rn fr to ne gi ti od br n s' d' ∧ ed rn fr ne od br r s' ∧ s = tg to gi r s' ∧ d = d' + ti r
def wv (rn : Nat) (fr to ne gi ti od br : Nat → Nat) (D : Nat → Nat) : Prop := D 0 = 1 ∧ ∀ s, s < 160 → D s ≠ 0 → ∃ n, wk rn fr to ne gi ti od br n s (D s)
def cl (rn : Nat) (fr to ne gi ti od br : Nat → Nat) (D : Nat → Nat) : Prop := ∀ r s, s < 160 → ed rn fr ne od br r s → D s ≠ 0 → D (tg to gi r s) ≠ 0 ∧ D (tg to gi r s) ≤ D s + ti r
theorem cl_min {rn : Nat} {fr to ne gi ti od br : Nat → Nat} (hb : ∀ j, to j < 10 ∧ gi j < 16) {D : Nat → Nat} (h0 : D 0 = 1) (hc : cl rn fr to ne gi ti od br D) : ∀ (n s d : Nat), wk rn fr to ne gi ti od br n s d → s < 160 ∧ D s ≠ 0 ∧ D s ≤ d := by
  intro n
  induction n with
  | zero =>
    rintro s d ⟨rfl, rfl⟩
    omega
  | succ n ih =>
    rintro s d ⟨s', r, d', h1, h2, rfl, rfl⟩
    obtain ⟨a, b, c⟩ := ih s' d' h1
    obtain ⟨e, f⟩ := hc r s' a h2 b
    exact ⟨tg_lt (hb r).1 (hb r).2, e, by omega⟩
theorem cl_eq {rn : Nat} {fr to ne gi ti od br : Nat → Nat} (hb : ∀ j, to j < 10 ∧ gi j < 16) {D E : Nat → Nat} (hD : wv rn fr to ne gi ti od br D) (kD : cl rn fr to ne gi ti od br D) (hE : wv rn fr to ne gi ti od br E) (kE : cl rn fr to ne gi ti od br E) : ∀ s, s < 160 → D s = E s := by
  intro s hs
  have key : ∀ (A B : Nat → Nat), wv rn fr to ne gi ti od br A → wv rn fr to ne gi ti od br B → cl rn fr to ne gi ti od br B → A s ≠ 0 → B s ≠ 0 ∧ B s ≤ A s := by
    intro A B hA hB kB h
    obtain ⟨n, hn⟩ := hA.2 s hs h
    exact (cl_min hb hB.1 kB n s (A s) hn).2
  by_cases c : D s = 0
  · by_cases d : E s = 0
    · omega
    · exact absurd c (key E D hE hD kD d).1
  · have a := key D E hD hE kE c
    have b := key E D hE hD kD a.1
    omega
def btr (A D : Nat → Nat) : Prop := ∀ s, A s ≠ 0 → D s ≠ 0 ∧ D s ≤ A s
def nz (D : Nat → Nat) : Nat := fb_ct (fun s => decide (D s ≠ 0)) 160
def ms (D : Nat → Nat) : Nat := fb_sm (fun s => if D s = 0 then 16200 else D s) 160
def bd (D : Nat → Nat) : Prop := ∀ s, s < 160 → D s ≤ 100 * nz D
theorem nz_le (D : Nat → Nat) : nz D ≤ 160 := fb_ct_le _ _
theorem bd_lt {D : Nat → Nat} (h : bd D) {s : Nat} (hs : s < 160) : D s ≤ 16000 := by
  have := h s hs
  have := nz_le D
  omega
/-- a pass over the roads, begun at A, now at D; c: whether something changed; P: the roads and stands seen to -/
def ps (rn : Nat) (fr to ne gi ti od br : Nat → Nat) (A D : Nat → Nat) (c : Nat) (P : Nat → Nat → Prop) : Prop :=
  wv rn fr to ne gi ti od br D ∧ bd D ∧ btr A D ∧ c ≤ 1 ∧ (c = 0 → ∀ s, D s = A s) ∧ ms D ≤ ms A ∧ (c = 1 → ms D < ms A) ∧
  ∀ r s, P r s → s < 160 → ed rn fr ne od br r s → A s ≠ 0 → D (tg to gi r s) ≠ 0 ∧ D (tg to gi r s) ≤ A s + ti r
theorem ps_0 {rn : Nat} {fr to ne gi ti od br : Nat → Nat} {A : Nat → Nat} (h1 : wv rn fr to ne gi ti od br A) (h2 : bd A) : ps rn fr to ne gi ti od br A A 0 (fun _ _ => False) :=
  ⟨h1, h2, fun s h => ⟨h, Nat.le_refl _⟩, by omega, fun _ _ => rfl, Nat.le_refl _, fun h => by omega, fun r s h => h.elim⟩
theorem ps_w {rn : Nat} {fr to ne gi ti od br : Nat → Nat} {A D : Nat → Nat} {c : Nat} {P Q : Nat → Nat → Prop} (h : ps rn fr to ne gi ti od br A D c P) (hPQ : ∀ r s, Q r s → s < 160 → ed rn fr ne od br r s → A s ≠ 0 → P r s) : ps rn fr to ne gi ti od br A D c Q := by
  obtain ⟨h1, h2, h3, h4, h5, h6, h7, h8⟩ := h
  exact ⟨h1, h2, h3, h4, h5, h6, h7, fun r s a b e f => h8 r s (hPQ r s a b e f) b e f⟩
/-- a road that is gone and changes nothing -/
theorem ps_n {rn : Nat} {fr to ne gi ti od br : Nat → Nat} {A D : Nat → Nat} {c : Nat} {P : Nat → Nat → Prop} (h : ps rn fr to ne gi ti od br A D c P) {r s : Nat} (hD : D s ≠ 0 → D (tg to gi r s) ≠ 0 ∧ D (tg to gi r s) ≤ D s + ti r) : ps rn fr to ne gi ti od br A D c (fun r' s' => P r' s' ∨ (r' = r ∧ s' = s)) := by
  obtain ⟨h1, h2, h3, h4, h5, h6, h7, h8⟩ := h
  refine ⟨h1, h2, h3, h4, h5, h6, h7, ?_⟩
  rintro r' s' (p | ⟨rfl, rfl⟩) a b e
  · exact h8 r' s' p a b e
  · obtain ⟨i, j⟩ := h3 s' e
    obtain ⟨k, l⟩ := hD i
    exact ⟨k, by omega⟩
/-- a road that is gone and changes what is behind it -/
theorem ps_y {rn : Nat} {fr to ne gi ti od br : Nat → Nat} (hb : ∀ j, to j < 10 ∧ gi j < 16 ∧ ti j ≤ 100) (ht : ∀ j, j < rn → 1 ≤ ti j) {A D : Nat → Nat} {c : Nat} {P : Nat → Nat → Prop} (h : ps rn fr to ne gi ti od br A D c P) {r s : Nat} (hs : s < 160) (he : ed rn fr ne od br r s) (hD : D s ≠ 0) (hx : D (tg to gi r s) = 0 ∨ D s + ti r < D (tg to gi r s)) :
    ps rn fr to ne gi ti od br A (nu D (tg to gi r s) (D s + ti r)) 1 (fun r' s' => P r' s' ∨ (r' = r ∧ s' = s)) := by
  obtain ⟨h1, h2, h3, h4, h5, h6, h7, h8⟩ := h
  have htl := tg_lt (s := s) (hb r).1 (hb r).2.1
  have hti := ht r he.1
  have hv : ∀ x, D x ≠ 0 → nu D (tg to gi r s) (D s + ti r) x ≠ 0 ∧ nu D (tg to gi r s) (D s + ti r) x ≤ D x := by
    intro x hx'
    unfold nu
    split
    · rename_i e; rw [e] at hx' ⊢; omega
    · omega
  have hnz : nz D ≤ nz (nu D (tg to gi r s) (D s + ti r)) := by
    apply fb_ct_sub
    intro k hk h
    simp only [decide_eq_true_eq] at h ⊢
    exact (hv k h).1
  have hms : ms (nu D (tg to gi r s) (D s + ti r)) + (if D (tg to gi r s) = 0 then 16200 else D (tg to gi r s)) = ms D + (D s + ti r) := by
    have := fb_sm_upd (fun x => if D x = 0 then 16200 else D x) (D s + ti r) htl
    rw [show ms (nu D (tg to gi r s) (D s + ti r)) = fb_sm (fun k => if k = tg to gi r s then D s + ti r else if D k = 0 then 16200 else D k) 160 from fb_sm_cong (fun k _ => by
      unfold nu
      by_cases q : k = tg to gi r s
      · simp only [if_pos q]; rw [if_neg (by omega)]
      · simp only [if_neg q])]
    exact this
  have hbs := bd_lt h2 hs
  have hb2 := (hb r).2.2
  refine ⟨⟨?_, ?_⟩, ?_, ?_, by omega, fun h => by omega, ?_, ?_, ?_⟩
  · have := hv 0 (by rw [h1.1]; omega)
    rw [h1.1] at this; omega
  · intro x hx' hxn
    by_cases q : x = tg to gi r s
    · subst q
      rw [nu_s]
      obtain ⟨n, hn⟩ := h1.2 s hs hD
      exact ⟨n + 1, s, r, D s, hn, he, rfl, rfl⟩
    · rw [nu_n _ _ q] at hxn ⊢
      exact h1.2 x hx' hxn
  · intro x hx'
    by_cases q : x = tg to gi r s
    · subst q
      rw [nu_s]
      rcases hx with hx | hx
      · have h1' : nz D + 1 = nz (nu D (tg to gi r s) (D s + ti r)) := by
          have := fb_ct_upd (fun x => decide (D x ≠ 0)) true htl
          simp only [hx, ne_eq, not_true_eq_false, decide_false, Bool.false_eq_true, if_false, if_true, Nat.add_zero] at this
          unfold nz
          rw [← this]
          apply fb_ct_cong
          intro k _
          unfold nu
          by_cases q : k = tg to gi r s
          · simp only [if_pos q]; simp; omega
          · simp only [if_neg q]
        have := h2 s hs
        omega
      · have := h2 _ htl
        omega
    · rw [nu_n _ _ q]
      have := h2 x hx'
      omega
  · intro x hx'
    obtain ⟨a, b⟩ := h3 x hx'
    obtain ⟨e, f⟩ := hv x a
    exact ⟨e, by omega⟩
  · rcases hx with hx | hx
    · rw [if_pos hx] at hms; omega
    · rw [if_neg (by omega)] at hms; omega
  · intro _
    rcases hx with hx | hx
    · rw [if_pos hx] at hms; omega
    · rw [if_neg (by omega)] at hms; omega
  · rintro r' s' (p | ⟨rfl, rfl⟩) a b e
    · obtain ⟨i, j⟩ := h8 r' s' p a b e
      obtain ⟨k, l⟩ := hv _ i
      exact ⟨k, by omega⟩
    · rw [nu_s]
      obtain ⟨i, j⟩ := h3 s' e
      omega
theorem ps_t {rn : Nat} {fr to ne gi ti od br : Nat → Nat} {A B D : Nat → Nat} {c d : Nat} {P Q : Nat → Nat → Prop} (h : ps rn fr to ne gi ti od br A B c P) (k : ps rn fr to ne gi ti od br B D d Q) : ps rn fr to ne gi ti od br A D (if d = 0 then c else 1) (fun r s => P r s ∨ Q r s) := by
  obtain ⟨h1, h2, h3, h4, h5, h6, h7, h8⟩ := h
  obtain ⟨k1, k2, k3, k4, k5, k6, k7, k8⟩ := k
  refine ⟨k1, k2, fun s hs => ?_, ?_, ?_, by omega, ?_, ?_⟩
  · have a := h3 s hs
    have b := k3 s a.1
    omega
  · split <;> omega
  · intro e s
    split at e
    · rename_i hd; rw [k5 hd s, h5 e s]
    · omega
  · intro e
    split at e
    · have := h7 e; omega
    · have := k7 (by omega); omega
  · rintro r s (p | q) a b e
    · obtain ⟨i, j⟩ := h8 r s p a b e
      have := k3 _ i
      omega
    · obtain ⟨i, j⟩ := h3 s e
      obtain ⟨x, y⟩ := k8 r s q a b i
      omega
/-- nothing changed: it is closed -/
theorem ps_cl {rn : Nat} {fr to ne gi ti od br : Nat → Nat} {A D : Nat → Nat} {P : Nat → Nat → Prop} (h : ps rn fr to ne gi ti od br A D 0 P) (hP : ∀ r s, s < 160 → ed rn fr ne od br r s → A s ≠ 0 → P r s) : cl rn fr to ne gi ti od br D := by
  obtain ⟨h1, h2, h3, h4, h5, h6, h7, h8⟩ := h
  intro r s hs he hd
  have e := h5 rfl
  rw [e s] at hd ⊢
  exact h8 r s (hP r s hs he hd) hs he hd
/-- how many stands hold the last word -/
def agr (D E : Nat → Nat) : Nat := fb_ct (fun s => decide (D s = E s)) 160
theorem agr_grow {rn : Nat} {fr to ne gi ti od br : Nat → Nat} (hb : ∀ j, to j < 10 ∧ gi j < 16) (ht : ∀ j, j < rn → 1 ≤ ti j) {A D E : Nat → Nat} {c : Nat} {P : Nat → Nat → Prop} (hA : wv rn fr to ne gi ti od br A) (h : ps rn fr to ne gi ti od br A D c P) (hP : ∀ r s, s < 160 → ed rn fr ne od br r s → A s ≠ 0 → P r s) (hE : wv rn fr to ne gi ti od br E) (kE : cl rn fr to ne gi ti od br E) : agr A E + 1 ≤ agr D E ∨ agr D E = 160 := by
  obtain ⟨h1, h2, h3, h4, h5, h6, h7, h8⟩ := h
  have low : ∀ (X : Nat → Nat), wv rn fr to ne gi ti od br X → ∀ s, s < 160 → X s ≠ 0 → E s ≠ 0 ∧ E s ≤ X s := by
    intro X hX s hs hx
    obtain ⟨n, hn⟩ := hX.2 s hs hx
    exact (cl_min hb hE.1 kE n s (X s) hn).2
  have keep : ∀ s, s < 160 → A s = E s → D s = E s := by
    intro s hs e
    by_cases q : A s = 0
    · by_cases r : D s = 0
      · omega
      · have := low D h1 s hs r; omega
    · have a := h3 s q
      have b := low D h1 s hs a.1
      omega
  by_cases hall : ∀ s, s < 160 → A s = E s
  · right
    unfold agr
    rw [fb_ct_all]
    intro k hk
    simp only [decide_eq_true_eq]
    exact keep k hk (hall k hk)
  · left
    obtain ⟨v, hv, hv2⟩ : ∃ v, v < 160 ∧ A v ≠ E v := by
      false_or_by_contra
      rename_i hn
      exact hall (fun s hs => by false_or_by_contra; rename_i q; exact hn ⟨s, hs, q⟩)
    have find : ∀ (e v : Nat), E v = e → v < 160 → A v ≠ E v → ∃ u, u < 160 ∧ A u ≠ E u ∧ D u = E u := by
      intro e
      induction e using Nat.strongRecOn with
      | ind e ih =>
        intro v he hv hne
        have hE0 : E v ≠ 0 := by
          intro q
          have : A v ≠ 0 := by omega
          exact (low A hA v hv this).1 q
        obtain ⟨n, hn⟩ := hE.2 v hv hE0
        cases n with
        | zero =>
          obtain ⟨rfl, q⟩ := hn
          rw [hA.1, hE.1] at hne; exact absurd rfl hne
        | succ n =>
          obtain ⟨s', r, d', w1, w2, w3, w4⟩ := hn
          obtain ⟨a, b, c'⟩ := cl_min hb hE.1 kE n s' d' w1
          have hti := ht r w2.1
          by_cases q : A s' = E s'
          · have hx := h8 r s' (hP r s' a w2 (by omega)) a w2 (by omega)
            rw [← w3] at hx
            have := low D h1 v hv hx.1
            exact ⟨v, hv, hne, by omega⟩
          · exact ih (E s') (by omega) s' rfl a q
    obtain ⟨u, u1, u2, u3⟩ := find _ v rfl hv hv2
    have := fb_ct_upd (fun s => decide (A s = E s)) true u1
    simp only [u2, decide_false, Bool.false_eq_true, if_false, if_true, Nat.add_zero] at this
    unfold agr
    rw [← this]
    apply fb_ct_sub
    intro k hk q
    by_cases w : k = u
    · rw [w]; simp only [decide_eq_true_eq]; exact u3
    · rw [if_neg w] at q
      simp only [decide_eq_true_eq] at q ⊢
      exact keep k hk q
