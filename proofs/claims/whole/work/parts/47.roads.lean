/-! road, bar, goal, anew -/
theorem lt_of_i {x y : Int32} {a b : Int} (hx : x.toInt = a) (hy : y.toInt = b) : x < y ↔ a < b := by rw [fa_lt, hx, hy]
theorem room_any (x : Int32) : (m_X2_isRoom x = 0 ∧ m_X8_isRoom x = 0) ∨ ∃ n, n < 10 ∧ x = nI n ∧ m_X2_isRoom x = 1 ∧ m_X8_isRoom x = 1 := by
  unfold m_X2_isRoom m_X8_isRoom
  have e9 : (9 : Int32).toInt = 9 := rfl
  have e10 : (10 : Int32).toInt = 10 := rfl
  by_cases q0 : x < 0
  · left; rw [if_pos q0, if_pos q0]; exact ⟨rfl, rfl⟩
  · by_cases q1 : 10 ≤ x
    · left
      rw [if_neg q0, if_neg q0, if_pos q1, if_pos (show 9 < x by rw [fa_le] at q1; rw [fa_lt]; omega)]; exact ⟨rfl, rfl⟩
    · right
      obtain ⟨n, hn, rfl⟩ := nI_of q0
      rw [if_neg q0, if_neg q0, if_neg q1, if_neg (show ¬ 9 < nI n by rw [fa_le] at q1; rw [fa_lt]; omega)]
      rw [show (10 : Int32) = nI 10 from rfl, nI_leI (by omega) (by omega)] at q1
      exact ⟨n, by omega, rfl, rfl, rfl⟩
theorem things_any (x : Int32) : (m_X2_isThings x = 0 ∧ m_X8_areThings x = 0) ∨ ∃ n, n < 16 ∧ x = nI n ∧ m_X2_isThings x = 1 ∧ m_X8_areThings x = 1 := by
  unfold m_X2_isThings m_X8_areThings
  have e9 : (15 : Int32).toInt = 15 := rfl
  have e10 : (16 : Int32).toInt = 16 := rfl
  by_cases q0 : x < 0
  · left; rw [if_pos q0, if_pos q0]; exact ⟨rfl, rfl⟩
  · by_cases q1 : 16 ≤ x
    · left
      rw [if_neg q0, if_neg q0, if_pos q1, if_pos (show 15 < x by rw [fa_le] at q1; rw [fa_lt]; omega)]; exact ⟨rfl, rfl⟩
    · right
      obtain ⟨n, hn, rfl⟩ := nI_of q0
      rw [if_neg q0, if_neg q0, if_neg q1, if_neg (show ¬ 15 < nI n by rw [fa_le] at q1; rw [fa_lt]; omega)]
      rw [show (16 : Int32) = nI 16 from rfl, nI_leI (by omega) (by omega)] at q1
      exact ⟨n, by omega, rfl, rfl, rfl⟩
theorem ticks_any (x : Int32) : (m_X2_isTicks x = 0 ∧ (x < 1 ∨ (¬ x < 1 ∧ 100 < x))) ∨ ∃ n, 1 ≤ n ∧ n ≤ 100 ∧ x = nI n ∧ m_X2_isTicks x = 1 ∧ ¬ x < 1 ∧ ¬ 100 < x := by
  unfold m_X2_isTicks
  by_cases q0 : x < 1
  · left; rw [if_pos q0]; exact ⟨rfl, .inl q0⟩
  · by_cases q1 : 100 < x
    · left; rw [if_neg q0, if_pos q1]; exact ⟨rfl, .inr ⟨q0, q1⟩⟩
    · right
      have h0 : ¬ x < 0 := by
        rw [fa_lt] at q0 ⊢
        have e1 : (1 : Int32).toInt = 1 := rfl
        have e0 : (0 : Int32).toInt = 0 := rfl
        omega
      obtain ⟨n, hn, rfl⟩ := nI_of h0
      rw [if_neg q0, if_neg q1]
      have a1 := q0
      have a2 := q1
      rw [l_1, nI_ltI (by omega) (by omega)] at a1
      rw [l_100, nI_ltI (by omega) (by omega)] at a2
      exact ⟨n, by omega, by omega, rfl, rfl, q0, q1⟩
theorem odds_any (x : Int32) : (m_X2_isOdds x = 0 ∧ (x < 1 ∨ (¬ x < 1 ∧ 8 < x))) ∨ ∃ n, 1 ≤ n ∧ n ≤ 8 ∧ x = nI n ∧ m_X2_isOdds x = 1 ∧ ¬ x < 1 ∧ ¬ 8 < x := by
  unfold m_X2_isOdds
  by_cases q0 : x < 1
  · left; rw [if_pos q0]; exact ⟨rfl, .inl q0⟩
  · by_cases q1 : 8 < x
    · left; rw [if_neg q0, if_pos q1]; exact ⟨rfl, .inr ⟨q0, q1⟩⟩
    · right
      have h0 : ¬ x < 0 := by
        rw [fa_lt] at q0 ⊢
        have e1 : (1 : Int32).toInt = 1 := rfl
        have e0 : (0 : Int32).toInt = 0 := rfl
        omega
      obtain ⟨n, hn, rfl⟩ := nI_of h0
      rw [if_neg q0, if_neg q1]
      have a1 := q0
      have a2 := q1
      rw [l_1, nI_ltI (by omega) (by omega)] at a1
      rw [l_8, nI_ltI (by omega) (by omega)] at a2
      exact ⟨n, by omega, by omega, rfl, rfl, q0, q1⟩
/-- the roads -/
def i_w (rn : Nat) (fr to ne gi ti od fa ft br : Nat → Nat) (rfa rft : Nat → Int32) : Prop :=
  rn ≤ 40 ∧ (∀ j, fr j < 10 ∧ to j < 10 ∧ ne j < 16 ∧ gi j < 16 ∧ ti j ≤ 100 ∧ od j ≤ 8 ∧ fa j < 10 ∧ ft j ≤ 100 ∧ br j ≤ 1) ∧
  (∀ j, j < rn → 1 ≤ ti j ∧ 1 ≤ od j ∧ 1 ≤ ft j ∧ (od j < 8 → rfa j = nI (fa j) ∧ rft j = nI (ft j))) ∧ ∀ j, rn ≤ j → br j = 0
/-- the stands listed -/
def i_l (sc : Nat) (sd : Nat → Nat) (il : Nat → Int32) : Prop :=
  sc ≤ 160 ∧ (∀ i, i < sc → sd i < 160) ∧ (∀ i j, i < j → j < sc → sd i ≠ sd j) ∧ (∀ s, s < 160 → (il s = 0 ∨ il s = 1)) ∧ ∀ s, s < 160 → (il s ≠ 0 ↔ ∃ i, i < sc ∧ sd i = s)
theorem forget_l {F sc : Nat} {sd : Nat → Nat} (hs : sc ≤ 160) (hd : ∀ i, i < sc → sd i < 160) (pc : Int32) : ∀ (m i : Nat) (il : Nat → Int32), i ≤ sc → sc - i < m →
    ∃ il', m_X2_forgetChances_b7 F (fun j => nI (sd j)) m (nI sc) pc il (nI i) = some (nI 0, pc, il') ∧ (∀ s, il' s = il s ∨ il' s = 0) ∧ ∀ j, i ≤ j → j < sc → il' (sd j) = 0 := by
  intro m
  induction m with
  | zero => intro i il _ h; omega
  | succ m ih =>
    intro i il hi hm
    unfold m_X2_forgetChances_b7
    by_cases e : i = sc
    · refine ⟨il, ?_, fun s => .inl rfl, fun j h1 h2 => by omega⟩
      rw [if_pos (nI_le (by omega) (by omega))]; rfl
    · have hdi := hd i (by omega)
      obtain ⟨il', h1, h2, h3⟩ := ih (i + 1) (upd il (sd i) 0) (by omega) (by omega)
      refine ⟨il', ?_, fun s => ?_, fun j hj1 hj2 => ?_⟩
      · rw [if_neg (nI_ge (by omega) (by omega)), if_neg (nI_in (by omega) (by decide)), nI_clamp (by omega), if_neg (nI_in hdi (by decide)), nI_clamp (by omega), nar0, nI_1]
        exact h1
      · rcases h2 s with h | h
        · by_cases c : s = sd i
          · right; rw [h, c, pk_us]
          · left; rw [h, pk_un c]
        · exact .inr h
      · by_cases c : j = i
        · subst c
          rcases h2 (sd j) with h | h
          · rw [h, pk_us]
          · exact h
        · exact h3 j (by omega) hj2
theorem forget_c {F : Nat} (hF : 10000000 ≤ F) {sc : Nat} {sd : Nat → Nat} {il : Nat → Int32} (hl : i_l sc sd il) (pc : Int32) :
    ∃ il', m_X2_forgetChances F (fun j => nI (sd j)) (nI sc) pc il = some (nI 0, nI 0, il') ∧ i_l 0 sd il' := by
  obtain ⟨h1, h2, h3, h4, h5⟩ := hl
  obtain ⟨il', e1, e2, e3⟩ := forget_l (F := F) h1 h2 (nI 0) F 0 il (by omega) (by omega)
  refine ⟨il', e1, by omega, fun i hi => by omega, fun i j _ hj => by omega, fun s hs => ?_, fun s hs => ?_⟩
  · rcases e2 s with h | h
    · rw [h]; exact h4 s hs
    · exact .inl h
  · have : il' s = 0 := by
      rcases e2 s with h | h
      · by_cases c : il s = 0
        · rw [h, c]
        · obtain ⟨i, hi, rfl⟩ := (h5 s hs).mp c
          exact e3 i (by omega) hi
      · exact h
    constructor
    · intro h; exact absurd this h
    · rintro ⟨i, hi, _⟩; omega
theorem i_w_put {rn : Nat} {fr to ne gi ti od fa ft br : Nat → Nat} {rfa rft : Nat → Int32} (hw : i_w rn fr to ne gi ti od fa ft br rfa rft) (hn : rn < 40) {a b c d e f g k : Nat} {x7 x8 : Int32}
    (ha : a < 10) (hb : b < 10) (hc : c < 16) (hd : d < 16) (he1 : 1 ≤ e) (he : e ≤ 100) (hf1 : 1 ≤ f) (hf : f ≤ 8) (hg : g < 10) (hk1 : 1 ≤ k) (hk : k ≤ 100) (h7 : f < 8 → x7 = nI g ∧ x8 = nI k) :
    i_w (rn + 1) (nu fr rn a) (nu to rn b) (nu ne rn c) (nu gi rn d) (nu ti rn e) (nu od rn f) (nu fa rn g) (nu ft rn k) br (upd rfa rn x7) (upd rft rn x8) := by
  obtain ⟨h1, h2, h3, h4⟩ := hw
  refine ⟨by omega, fun j => ?_, fun j hj => ?_, fun j hj => h4 j (by omega)⟩
  · have := h2 j
    unfold nu
    by_cases q : j = rn
    · simp only [if_pos q]; omega
    · simp only [if_neg q]; exact this
  · by_cases q : j = rn
    · subst q
      rw [nu_s, nu_s, nu_s, nu_s, pk_us, pk_us]
      exact ⟨he1, hf1, hk1, h7⟩
    · rw [nu_n _ _ q, nu_n _ _ q, nu_n _ _ q, nu_n _ _ q, pk_un q, pk_un q]
      exact h3 j (by omega)
theorem b_road {F : Nat} (hF : 10000000 ≤ F) {rn : Nat} {fr to ne gi ti od fa ft br : Nat → Nat} {rfa rft : Nat → Int32} (hw : i_w rn fr to ne gi ti od fa ft br rfa rft) {sc : Nat} {sd : Nat → Nat} {il : Nat → Int32} (hl : i_l sc sd il) (pc : Nat) (x1 x2 x3 x4 x5 x6 x7 x8 : Int32) :
    (m_X7_road F (fun j => nI (sd j)) x1 x2 x3 x4 x5 x6 x7 x8 (nI rn) (nI sc) (nI pc) il (fun j => nI (fr j)) (fun j => nI (to j)) (fun j => nI (ne j)) (fun j => nI (gi j)) (fun j => nI (ti j)) (fun j => nI (od j)) (fun j => nI (fa j)) (fun j => nI (ft j)) = some (-1, nI rn, nI sc, nI pc, il, (fun j => nI (fr j)), (fun j => nI (to j)), (fun j => nI (ne j)), (fun j => nI (gi j)), (fun j => nI (ti j)), (fun j => nI (od j)), (fun j => nI (fa j)), (fun j => nI (ft j))) ∧
      m_X8_road x1 x2 x3 x4 x5 x6 x7 x8 (nI rn) (fun j => nI (fr j)) (fun j => nI (to j)) (fun j => nI (ne j)) (fun j => nI (gi j)) (fun j => nI (ti j)) (fun j => nI (od j)) rfa rft (fun j => nI (br j)) = some (-1, nI rn, (fun j => nI (fr j)), (fun j => nI (to j)), (fun j => nI (ne j)), (fun j => nI (gi j)), (fun j => nI (ti j)), (fun j => nI (od j)), rfa, rft, (fun j => nI (br j)))) ∨
    ∃ (r : Int32) (fr' to' ne' gi' ti' od' fa' ft' : Nat → Nat) (il' rfa' rft' : Nat → Int32), i_w (rn + 1) fr' to' ne' gi' ti' od' fa' ft' br rfa' rft' ∧ i_l 0 sd il' ∧
      m_X7_road F (fun j => nI (sd j)) x1 x2 x3 x4 x5 x6 x7 x8 (nI rn) (nI sc) (nI pc) il (fun j => nI (fr j)) (fun j => nI (to j)) (fun j => nI (ne j)) (fun j => nI (gi j)) (fun j => nI (ti j)) (fun j => nI (od j)) (fun j => nI (fa j)) (fun j => nI (ft j)) = some (r, nI (rn + 1), nI 0, nI 0, il', (fun j => nI (fr' j)), (fun j => nI (to' j)), (fun j => nI (ne' j)), (fun j => nI (gi' j)), (fun j => nI (ti' j)), (fun j => nI (od' j)), (fun j => nI (fa' j)), (fun j => nI (ft' j))) ∧
      m_X8_road x1 x2 x3 x4 x5 x6 x7 x8 (nI rn) (fun j => nI (fr j)) (fun j => nI (to j)) (fun j => nI (ne j)) (fun j => nI (gi j)) (fun j => nI (ti j)) (fun j => nI (od j)) rfa rft (fun j => nI (br j)) = some (r, nI (rn + 1), (fun j => nI (fr' j)), (fun j => nI (to' j)), (fun j => nI (ne' j)), (fun j => nI (gi' j)), (fun j => nI (ti' j)), (fun j => nI (od' j)), rfa', rft', (fun j => nI (br j))) := by
  have hn := hw.1
  have n10 : ¬ (1 : Int32) = 0 := by decide
  unfold m_X7_road m_X8_road m_X2_isWay
  by_cases q40 : rn = 40
  · left
    have e1 : ¬ m_X2_isFull (nI rn) = 0 := by rw [q40]; decide
    have e2 : nI rn = 40 := by rw [q40]; rfl
    rw [if_neg e1, if_pos e2]
    refine ⟨rfl, ?_⟩
    repeat' split
    all_goals rfl
  · have e1 : m_X2_isFull (nI rn) = 0 := by unfold m_X2_isFull; rw [if_pos (by rw [l_40]; exact nI_lt (by omega) (by decide))]
    have e2 : ¬ nI rn = 40 := by rw [l_40, nI_eq (by omega) (by omega)]; exact q40
    rw [if_pos e1, if_neg e2]
    rcases room_any x1 with ⟨a1, a2⟩ | ⟨a, ha, rfl, a1, a2⟩
    · left; rw [if_pos a1, if_pos a2, if_pos rfl]; exact ⟨rfl, rfl⟩
    rw [a1, a2, if_neg n10, if_neg n10]
    rcases room_any x2 with ⟨a1, a2⟩ | ⟨b, hb, rfl, a1, a2⟩
    · left; rw [if_pos a1, if_pos a2, if_pos rfl]; exact ⟨rfl, rfl⟩
    rw [a1, a2, if_neg n10, if_neg n10]
    rcases things_any x3 with ⟨a1, a2⟩ | ⟨c, hc, rfl, a1, a2⟩
    · left; rw [if_pos a1, if_pos a2, if_pos rfl]; exact ⟨rfl, rfl⟩
    rw [a1, a2, if_neg n10, if_neg n10]
    rcases things_any x4 with ⟨a1, a2⟩ | ⟨d, hd, rfl, a1, a2⟩
    · left; rw [if_pos a1, if_pos a2, if_pos rfl]; exact ⟨rfl, rfl⟩
    rw [a1, a2, if_neg n10, if_neg n10, if_neg n10]
    rcases ticks_any x5 with ⟨a1, a2⟩ | ⟨e, he1, he2, rfl, a1, a2, a3⟩
    · left
      rw [if_pos a1]
      rcases a2 with a2 | ⟨a2, a3⟩
      · rw [if_pos a2]; exact ⟨rfl, rfl⟩
      · rw [if_neg a2, if_pos a3]; exact ⟨rfl, rfl⟩
    rw [a1, if_neg n10, if_neg a2, if_neg a3]
    rcases odds_any x6 with ⟨a1, a2⟩ | ⟨f, hf1, hf2, rfl, a1, a2, a3⟩
    · left
      rw [if_pos a1]
      rcases a2 with a2 | ⟨a2, a3⟩
      · rw [if_pos a2]; exact ⟨rfl, rfl⟩
      · rw [if_neg a2, if_pos a3]; exact ⟨rfl, rfl⟩
    rw [a1, if_neg n10, if_neg a2, if_neg a3]
    obtain ⟨il', f1, f2⟩ := forget_c hF hl (nI pc)
    have hbr : upd (fun j => nI (br j)) rn 0 = fun j => nI (br j) := by
      funext j
      by_cases q : j = rn
      · rw [q, pk_us, hw.2.2.2 rn (by omega)]; rfl
      · rw [pk_un q]
    have hr101 : ∀ y7 y8 : Int32, m_X8_road_b101 (nI a) (nI b) (nI c) (nI d) (nI e) (nI f) y7 y8 (nI rn) (fun j => nI (fr j)) (fun j => nI (to j)) (fun j => nI (ne j)) (fun j => nI (gi j)) (fun j => nI (ti j)) (fun j => nI (od j)) rfa rft (fun j => nI (br j)) = some (nI (rn + 1) - 1, nI (rn + 1), (fun j => nI (nu fr rn a j)), (fun j => nI (nu to rn b j)), (fun j => nI (nu ne rn c j)), (fun j => nI (nu gi rn d j)), (fun j => nI (nu ti rn e j)), (fun j => nI (nu od rn f j)), upd rfa rn y7, upd rft rn y8, (fun j => nI (br j))) := by
      intro y7 y8
      unfold m_X8_road_b101
      have q := nI_in (c := rn) (N := 40) (by omega) (by decide)
      rw [if_neg q, if_neg q, if_neg q, if_neg q, if_neg q, if_neg q, if_neg q, if_neg q, if_neg q, nI_clamp (by omega), nI_1, n_upd, n_upd, n_upd, n_upd, n_upd, n_upd, nar0, hbr]
    have hc78 : ∀ (y7 y8 v9 : Int32) (g k : Nat), (v9 = 0 → g = 0 ∧ k = 1) → (v9 ≠ 0 → y7 = nI g ∧ y8 = nI k) → m_X7_road_b78 F (fun j => nI (sd j)) (nI a) (nI b) (nI c) (nI d) (nI e) (nI f) y7 y8 (nI rn) (nI sc) (nI pc) il (fun j => nI (fr j)) (fun j => nI (to j)) (fun j => nI (ne j)) (fun j => nI (gi j)) (fun j => nI (ti j)) (fun j => nI (od j)) (fun j => nI (fa j)) (fun j => nI (ft j)) v9 = some (nI (rn + 1) - 1, nI (rn + 1), nI 0, nI 0, il', (fun j => nI (nu fr rn a j)), (fun j => nI (nu to rn b j)), (fun j => nI (nu ne rn c j)), (fun j => nI (nu gi rn d j)), (fun j => nI (nu ti rn e j)), (fun j => nI (nu od rn f j)), (fun j => nI (nu fa rn g j)), (fun j => nI (nu ft rn k j))) := by
      intro y7 y8 v9 g k hv0 hv1
      unfold m_X7_road_b78 m_X7_road_b127 m_X7_road_b138 m_X1_lead m_X1_succeed m_X1_fail m_X2_openNext
      rw [if_neg (nI_in (by omega) (by decide)), f1]
      simp only [Option.bind_some, nI_clamp (show rn < 2 ^ 31 by omega)]
      by_cases q : v9 = 0
      · obtain ⟨rfl, rfl⟩ := hv0 q
        rw [if_pos q, if_pos q, if_neg (by omega), l_0, l_1, nI_add, n_upd, n_upd, n_upd, n_upd, n_upd, n_upd, n_upd, n_upd]
      · obtain ⟨rfl, rfl⟩ := hv1 q
        rw [if_neg q, if_neg q, if_neg (by omega), nI_1, n_upd, n_upd, n_upd, n_upd, n_upd, n_upd, n_upd, n_upd]
    unfold m_X7_road_b53
    by_cases q8 : f = 8
    · right
      have g8 : (8 : Int32) ≤ nI f := by rw [q8]; decide
      rw [if_pos g8, if_pos g8, if_pos rfl]
      exact ⟨_, _, _, _, _, _, _, _, _, _, _, _, i_w_put hw (by omega) ha hb hc hd he1 he2 hf1 hf2 (g := 0) (k := 1) (by omega) (by omega) (by omega) (fun h => by omega), f2, hc78 x7 x8 0 0 1 (fun _ => ⟨rfl, rfl⟩) (fun h => absurd rfl h), hr101 x7 x8⟩
    · have g8 : ¬ (8 : Int32) ≤ nI f := by rw [l_8]; exact nI_ge (by omega) (by decide)
      rw [if_neg g8, if_neg g8, if_neg n10]
      rcases room_any x7 with ⟨a1, a2⟩ | ⟨g, hg, rfl, a1, a2⟩
      · left; rw [if_pos a1, if_pos a2]; exact ⟨rfl, rfl⟩
      rw [a1, a2, if_neg n10, if_neg n10]
      rcases ticks_any x8 with ⟨a1, a2⟩ | ⟨k, hk1, hk2, rfl, a1, a2, a3⟩
      · left
        rw [if_pos a1]
        rcases a2 with a2 | ⟨a2, a3⟩
        · rw [if_pos a2]; exact ⟨rfl, rfl⟩
        · rw [if_neg a2, if_neg (by rw [fa_lt] at a3; rw [fa_le]; omega)]; exact ⟨rfl, rfl⟩
      rw [a1, if_neg n10, if_neg a2, if_pos (show nI k ≤ 100 by rw [fa_lt] at a3; rw [fa_le]; omega)]
      right
      exact ⟨_, _, _, _, _, _, _, _, _, _, _, _, i_w_put hw (by omega) ha hb hc hd he1 he2 hf1 hf2 (g := g) (k := k) hg hk1 hk2 (fun _ => ⟨rfl, rfl⟩), f2, hc78 (nI g) (nI k) 1 g k (fun h => absurd h n10) (fun _ => ⟨rfl, rfl⟩), hr101 (nI g) (nI k)⟩
theorem b_bar {F : Nat} (hF : 10000000 ≤ F) {rn : Nat} {fr to ne gi ti od fa ft br : Nat → Nat} {rfa rft : Nat → Int32} (hw : i_w rn fr to ne gi ti od fa ft br rfa rft) {sc : Nat} {sd : Nat → Nat} {il : Nat → Int32} (hl : i_l sc sd il) (pc : Nat) (x1 x2 : Int32) (hx2 : x2 = 0 ∨ x2 = 1) :
    (m_X7_bar F (nI rn) (fun j => nI (sd j)) x1 x2 (nI sc) (nI pc) il (fun j => nI (br j)) = some (0, nI sc, nI pc, il, (fun j => nI (br j))) ∧ m_X8_bar (nI rn) x1 x2 (fun j => nI (br j)) = some (0, (fun j => nI (br j)))) ∨
    ∃ (br' : Nat → Nat) (il' : Nat → Int32), i_w rn fr to ne gi ti od fa ft br' rfa rft ∧ i_l 0 sd il' ∧
      m_X7_bar F (nI rn) (fun j => nI (sd j)) x1 x2 (nI sc) (nI pc) il (fun j => nI (br j)) = some (1, nI 0, nI 0, il', (fun j => nI (br' j))) ∧ m_X8_bar (nI rn) x1 x2 (fun j => nI (br j)) = some (1, (fun j => nI (br' j))) := by
  have hn := hw.1
  unfold m_X7_bar m_X8_bar m_X2_hasRoad
  rcases pk_ix x1 (n := rn) (by omega) with h | h | ⟨j, hj, rfl⟩
  · left; rw [if_pos h, if_pos h, if_pos rfl]; exact ⟨rfl, rfl⟩
  · left
    by_cases q : x1 < 0
    · rw [if_pos q, if_pos q, if_pos rfl]; exact ⟨rfl, rfl⟩
    · rw [if_neg q, if_neg q, if_pos h, if_pos rfl, if_neg (by rw [fa_le] at h; rw [fa_lt]; omega)]; exact ⟨rfl, rfl⟩
  · right
    obtain ⟨il', f1, f2⟩ := forget_c hF hl (nI pc)
    obtain ⟨b, hb, rfl⟩ : ∃ b, b ≤ 1 ∧ x2 = nI b := by
      rcases hx2 with rfl | rfl
      · exact ⟨0, by omega, rfl⟩
      · exact ⟨1, by omega, rfl⟩
    have hnar : vp_nar .boolean (nI b) = nI b := by
      rcases (by omega : b = 0 ∨ b = 1) with rfl | rfl <;> decide
    refine ⟨nu br j b, il', ?_, f2, ?_, ?_⟩
    · obtain ⟨h1, h2, h3, h4⟩ := hw
      refine ⟨h1, fun i => ?_, h3, fun i hi => ?_⟩
      · have := h2 i
        unfold nu
        by_cases q : i = j
        · simp only [if_pos q]; omega
        · simp only [if_neg q]; exact this
      · rw [nu_n _ _ (by omega)]; exact h4 i hi
    · have q := nI_in (c := j) (N := 40) (by omega) (by decide)
      rw [if_neg (nI_pos (by omega)), if_neg (nI_ge hj (by omega)), if_neg (show ¬ (1 : Int32) = 0 by decide), if_neg q, if_neg (fun h => h hx2), f1, Option.bind_some, nI_clamp (by omega), n_upd]
    · have q := nI_in (c := j) (N := 40) (by omega) (by decide)
      rw [if_neg (nI_pos (by omega)), if_pos (nI_lt hj (by omega)), if_neg q, nI_clamp (by omega), hnar, n_upd]
theorem b_goal {F : Nat} (hF : 10000000 ≤ F) {sc : Nat} {sd : Nat → Nat} {il : Nat → Int32} (hl : i_l sc sd il) (pc gr gt : Nat) (x1 x2 : Int32) :
    (m_X7_goal F (fun j => nI (sd j)) x1 x2 (nI gr) (nI gt) (nI sc) (nI pc) il = some (0, nI gr, nI gt, nI sc, nI pc, il) ∧ m_X8_goal x1 x2 (nI gr) (nI gt) = some (0, nI gr, nI gt)) ∨
    ∃ gr' gt' il', gr' < 10 ∧ gt' < 16 ∧ i_l 0 sd il' ∧
      m_X7_goal F (fun j => nI (sd j)) x1 x2 (nI gr) (nI gt) (nI sc) (nI pc) il = some (1, nI gr', nI gt', nI 0, nI 0, il') ∧ m_X8_goal x1 x2 (nI gr) (nI gt) = some (1, nI gr', nI gt') := by
  unfold m_X7_goal m_X8_goal
  have n10 : ¬ (1 : Int32) = 0 := by decide
  rcases room_any x1 with ⟨a1, a2⟩ | ⟨a, ha, rfl, a1, a2⟩
  · left; rw [if_pos a1, if_pos a2]; exact ⟨rfl, rfl⟩
  rw [a1, a2, if_neg n10, if_neg n10]
  rcases things_any x2 with ⟨a1, a2⟩ | ⟨b, hb, rfl, a1, a2⟩
  · left; rw [if_pos a1, if_pos a2]; exact ⟨rfl, rfl⟩
  rw [a1, a2, if_neg n10, if_neg n10]
  right
  obtain ⟨il', f1, f2⟩ := forget_c hF hl (nI pc)
  refine ⟨a, b, il', ha, hb, f2, ?_, rfl⟩
  rw [f1]; rfl
theorem b_anew {F : Nat} (hF : 10000000 ≤ F) {sc : Nat} {sd : Nat → Nat} {il : Nat → Int32} (hl : i_l sc sd il) (pc pr : Nat) (x1 : Int32) :
    (m_X7_anew F (fun j => nI (sd j)) x1 (nI pr) (nI sc) (nI pc) il = some (0, nI pr, nI sc, nI pc, il) ∧ m_X8_anew x1 (nI pr) = some (0, nI pr)) ∨
    ∃ pr' il', pr' ≤ 100 ∧ i_l 0 sd il' ∧
      m_X7_anew F (fun j => nI (sd j)) x1 (nI pr) (nI sc) (nI pc) il = some (1, nI pr', nI 0, nI 0, il') ∧ m_X8_anew x1 (nI pr) = some (1, nI pr') := by
  obtain ⟨il', f1, f2⟩ := forget_c hF hl (nI pc)
  unfold m_X7_anew m_X8_anew m_X7_anew_b13
  rw [f1]
  by_cases q : x1 = 0
  · right
    refine ⟨0, il', by omega, f2, ?_, ?_⟩
    · rw [if_pos q, q]; rfl
    · rw [q, if_neg (by decide), if_pos (by decide)]; rfl
  · rw [if_neg q]
    rcases ticks_any x1 with ⟨a1, a2⟩ | ⟨k, hk1, hk2, rfl, a1, a2, a3⟩
    · left
      rw [if_pos a1]
      refine ⟨rfl, ?_⟩
      rcases a2 with a2 | ⟨a2, a3⟩
      · have : x1 < 0 := by
          rw [fa_lt] at a2 ⊢
          rw [fa_eq] at q
          have e1 : (1 : Int32).toInt = 1 := rfl
          have e0 : (0 : Int32).toInt = 0 := rfl
          omega
        rw [if_pos this]
      · by_cases c : x1 < 0
        · rw [if_pos c]
        · rw [if_neg c, if_neg (by rw [fa_lt] at a3; rw [fa_le]; omega)]
    · right
      refine ⟨k, il', hk2, f2, ?_, ?_⟩
      · rw [a1, if_neg (show ¬ (1 : Int32) = 0 by decide)]; rfl
      · rw [if_neg (nI_pos (by omega)), if_pos (by rw [l_100]; exact nI_le hk2 (by decide))]
