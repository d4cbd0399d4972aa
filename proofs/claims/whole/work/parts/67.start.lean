/-! the law's start -/
def lw_nd : List Cond := [.instantiable RX0 9, .instantiable RX1 9, .instantiable RX2 14, .instantiable RX3 2, .instantiable RX4 3, .instantiable RX5 5, .instantiable RX6 6, .instantiable RX7 8, .instantiable RX8 50, .arrayClass .int, .arrayClass .long, .arrayClass .boolean, .arrayOver (.object "FastestRun$Road"), .arrayOver (.object "FastestRun$Run"), .laysStatic "FastestRun$Game" "STEP_X" "[I", .laysStatic "FastestRun$Game" "STEP_Y" "[I", .initialized "FastestRun$Game", .classLink RL 7 RX7, .initialized RX7, .classLink RL 10 RX8, .initialized RX8, .methodLink RL 9 yX7_init, .instanceMethod yX7_init, .methodLink RL 12 yX8_init, .instanceMethod yX8_init]
set_option maxRecDepth 20000 in
theorem lw_nd_in : ∀ w ∈ lw_nd, w ∈ lw_tbl := lw_at [57, 217, 209, 124, 118, 155, 183, 49, 750, 115, 116, 179, 215, 153, 425, 430, 37, 48, 36, 749, 46, 50, 51, 751, 752] (by decide +kernel)
set_option maxRecDepth 20000 in
theorem lw_nf_in : ∀ w ∈ fr_nf.map (fun q => Cond.fieldLinkNest q.1 q.2.1 q.2.2.1 q.2.2.2.1 q.2.2.2.2 "FastestRun"), w ∈ lw_tbl := lw_at [82, 83, 87, 89, 90, 92, 93, 94, 134, 141, 143, 145, 166, 192, 223, 225, 228, 230, 232, 234, 236, 238, 259, 261, 263, 265, 267] (by decide +kernel)
set_option maxRecDepth 20000 in
theorem lw_nm_in : ∀ w ∈ fr_nm.map (fun q => Cond.methodLinkNest q.1 q.2.1 q.2.2 "FastestRun"), w ∈ lw_tbl := lw_at [119, 156, 184, 218, 420] (by decide +kernel)
theorem lw_ar {ty : FieldType} {args : Array Value} {s : State} (hp : match ty with | .object _ => False | _ => True) (h : (Cond.arrayClass ty).before args s = true) : ∃ cA : ClassId, ArrOfT s cA ty ∧ va_RA s cA ty := by
  obtain ⟨c, k, comp, h1, h2, h3⟩ := Cond.arrayClass_spec h
  refine ⟨c, fun n z => ⟨(fun k h => by cases h), k, h2, comp, h3⟩, ?_⟩
  cases ty with
  | object C => exact hp.elim
  | _ => exact h1
theorem lw_ao {C : String} {args : Array Value} {s : State} (h : (Cond.arrayOver (.object C)).before args s = true) : ∃ cA : ClassId, ArrOfT s cA (.object C) ∧ va_RA s cA (.object C) := by
  obtain ⟨comp, c, k, h1, h2, h3, h4, h5⟩ := Cond.arrayOver_spec h
  exact ⟨c, fun n z => ⟨(fun k h => by cases h), k, h3, comp, h4⟩, k, comp, h3, h4, h1, h5⟩
theorem fr_set {D : va_G} {ws : va_W} {H : Heap} {n a N : Nat} {c : ClassId} {f g : Nat → Option Nat} (hP : va_P D vwCl ws H) (h : ws[n]? = some (a, .inl (c, N, .inr (.inr (.inr (.inr f)))))) (he : ∀ j, j < N → f j = g j) : va_P D vwCl (ws.set n (a, .inl (c, N, .inr (.inr (.inr (.inr g)))))) H := by
  intro k q hk
  have hl := (List.getElem?_eq_some_iff.mp h).1
  by_cases e : n = k
  · subst e
    rw [List.getElem?_set_self hl] at hk
    cases hk
    have h1 : H[a]? = some (vp_cell c (N, .inr (.inr (.inr (.inr f))))) := hP n _ h
    show H[a]? = some (vp_cell c (N, .inr (.inr (.inr (.inr g)))))
    rw [h1, vp_cell_q, vp_cell_q]
    unfold arrV
    congr 3
    funext j
    show va_rf (f j.val) = va_rf (g j.val)
    rw [he j.val j.isLt]
  · rw [List.getElem?_set_ne e] at hk
    exact hP k q hk
theorem fr_setD {A : Nat → Prop} {ws : va_W} {n a : Nat} {x y : va_E} (hD : va_D A ws) (h : ws[n]? = some (a, x)) : va_D A (ws.set n (a, y)) := by
  have key : ∀ (k : Nat) (q : Nat × va_E), (ws.set n (a, y))[k]? = some q → ∃ z : va_E, ws[k]? = some (q.1, z) := by
    intro k q hk
    have hl := (List.getElem?_eq_some_iff.mp h).1
    by_cases e : n = k
    · subst e
      rw [List.getElem?_set_self hl] at hk
      cases hk
      exact ⟨x, h⟩
    · rw [List.getElem?_set_ne e] at hk
      exact ⟨q.2, hk⟩
  refine ⟨fun i j p q hi hj e => ?_, fun k q hk => ?_⟩
  · obtain ⟨z1, h1⟩ := key i p hi
    obtain ⟨z2, h2⟩ := key j q hj
    exact hD.1 i j _ _ h1 h2 e
  · obtain ⟨z1, h1⟩ := key k q hk
    exact hD.2 k (q.1, z1) h1
theorem fr_xwn {p : Program} {l : Launch} {e : Env} {R : Room} {s : State} {m : MethodId} {args : Array Value} {below : List Frame} {meth : Method} {c : Code} {H : Heap} {locs : List Loc} {cells slots : Nat} {Q : State → Prop} {pc : Nat} {ls : Array Slot} {rest st0 : List Value} {a : Array Value} {A0 : Nat → Prop} {H0 : Heap} {D : va_G} {wc wx : va_W} {mc ms : Nat} {w1 : List Nat → va_W} (hr : va_Run p l e R s m args below meth c H locs cells slots mc ms (F0 m pc ls st0) rest (fr_N D w1 (va_A wc H.size) a) (va_A wc H.size)) (hS : va_S A0 H0 H locs) (hP : va_P D vwCl (wc ++ wx) H) (hD : va_D A0 (wc ++ wx)) (hF : ∀ q, va_A wc H.size q → A0 q)
    (kk : ∀ (u : List Nat) (H1 : Heap) (locs1 : List Loc), va_P D vwCl (w1 u ++ wx) H1 → va_D A0 (w1 u ++ wx) → va_S A0 H0 H1 locs1 → W p l e R s m args below meth c H1 locs1 (cells + mc) (slots + ms) Q (F0 m (pc + 3) ls rest)) : W p l e R s m args below meth c H locs cells slots Q (F0 m pc ls st0) := by
  refine va_callv hr hS (fun q _ h => hF q h) hF (fun u t H1 locs1 ht hvm hw hB hz hk hS1 => ?_)
  obtain ⟨hP1, hD1⟩ := hB
  rw [ht] at hP1
  have apart : ∀ (k : Nat) (q : Nat × va_E), wx[k]? = some q → q.1 < H.size ∧ ¬ va_A wc H.size q.1 := by
    intro k q hq
    have hl := (fr_PR hP k q hq).lt
    refine ⟨hl, ?_⟩
    rintro (⟨k2, e, h⟩ | h)
    · exact fr_DX hD k2 k _ q h hq rfl
    · omega
  refine kk u H1 locs1 (va_P.app hP1 (fun k q hq => ?_)) (va_D.app (hD1.weaken (fun k q _ h => hF q.1 h)) (fr_DR hD) (fun i j x y hx hy hxy => ?_)) hS1
  · obtain ⟨g1, g2⟩ := apart k q hq
    exact (fr_PR hP k q hq).kept (hk q.1 g1 g2)
  · exact (apart j y hy).2 (by rw [← hxy]; exact hD1.2 i x hx)
