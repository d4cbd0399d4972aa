/-! behind a call: cells that the callee doesn't know at all stay at the end of the world -/
section FRX
variable {p : Program} {l : Launch} {e : Env} {R : Room} {s : State} {m : MethodId} {args : Array Value} {below : List Frame} {meth : Method} {c : Code} {H : Heap} {locs : List Loc} {cells slots : Nat} {Q : State → Prop}
variable {pc : Nat} {ls : Array Slot} {rest st0 : List Value} {a : Array Value} {A0 : Nat → Prop} {H0 : Heap} {D : va_G} {ws wc w1 wr ws2 wx : va_W}
theorem fr_gl {ws wx : va_W} {k : Nat} {q : Nat × va_E} (hk : ws[k]? = some q) : (ws ++ wx)[k]? = some q := by
  rw [List.getElem?_append_left (List.getElem?_eq_some_iff.mp hk).1]; exact hk
theorem fr_gr {ws wx : va_W} {k : Nat} {q : Nat × va_E} (hk : wx[k]? = some q) : (ws ++ wx)[ws.length + k]? = some q := by
  rw [List.getElem?_append_right (Nat.le_add_right _ _), Nat.add_sub_cancel_left]; exact hk
theorem fr_PL (h : va_P D vwCl (ws ++ wx) H) : va_P D vwCl ws H := fun k q hk => h k q (fr_gl hk)
theorem fr_PR (h : va_P D vwCl (ws ++ wx) H) : va_P D vwCl wx H := fun k q hk => h _ q (fr_gr hk)
theorem fr_DL (h : va_D A0 (ws ++ wx)) : va_D A0 ws := ⟨fun i j p q hi hj e => h.1 i j p q (fr_gl hi) (fr_gl hj) e, fun k q hk => h.2 k q (fr_gl hk)⟩
theorem fr_DR (h : va_D A0 (ws ++ wx)) : va_D A0 wx := ⟨fun i j p q hi hj e => by have := h.1 _ _ p q (fr_gr hi) (fr_gr hj) e; omega, fun k q hk => h.2 _ q (fr_gr hk)⟩
theorem fr_DX (h : va_D A0 (ws ++ wx)) : ∀ (i j : Nat) (p q : Nat × va_E), ws[i]? = some p → wx[j]? = some q → p.1 ≠ q.1 := fun i j p q hi hj e => by
  have h1 := h.1 _ _ p q (fr_gl hi) (fr_gr hj) e
  have h2 := (List.getElem?_eq_some_iff.mp hi).1
  omega
theorem fr_PS (h : va_P D vwCl (ws ++ wx) H) : va_P D vwCl (wx ++ ws) H := va_P.app (fr_PR h) (fr_PL h)
theorem fr_DS (h : va_D A0 (ws ++ wx)) : va_D A0 (wx ++ ws) := va_D.app (fr_DR h) (fr_DL h) (fun i j p q hi hj e => fr_DX h j i q p hj hi e.symm)
theorem fr_in {is : List Nat} {u w : va_W} (hs : is.map (fun i => u[i]?) = w.map some) : ∀ (k : Nat) (q : Nat × va_E), w[k]? = some q → ∃ i : Nat, u[i]? = some q := by
  intro k q hq
  have h1 : (is.map (fun i => u[i]?))[k]? = some (some q) := by rw [hs, List.getElem?_map, hq]; rfl
  rw [List.getElem?_map] at h1
  cases hi : is[k]? with
  | none => rw [hi] at h1; cases h1
  | some i => rw [hi] at h1; exact ⟨i, Option.some.inj h1⟩
theorem fr_after2 {H1 : Heap} (hP : va_P D vwCl (ws ++ wx) H) (hD : va_D A0 (ws ++ wx)) (isC isR is : List Nat) (hC : isC.map (fun i => ws[i]?) = wc.map some) (hR : isR.map (fun i => ws[i]?) = wr.map some) (hn : va_nd isR = true) (hdis : isR.all (fun i => !(isC.contains i)) = true) (hn2 : va_nd is = true) (hs : is.map (fun i => (wr ++ w1)[i]?) = ws2.map some)
    (hk : ∀ q : Nat, q < H.size → ¬ va_A wc H.size q → H1[q]? = H[q]?) (hF : ∀ q, va_A wc H.size q → A0 q) (hP1 : va_P D vwCl w1 H1) (hD1 : va_D (va_A wc H.size) w1) : va_P D vwCl (ws2 ++ wx) H1 ∧ va_D A0 (ws2 ++ wx) := by
  obtain ⟨hP2, hD2⟩ := fr_after (fr_PL hP) (fr_DL hD) isC isR is hC hR hn hdis hn2 hs hk hF hP1 hD1
  have apart : ∀ (k : Nat) (q : Nat × va_E), wx[k]? = some q → q.1 < H.size ∧ ¬ va_A wc H.size q.1 := by
    intro k q hq
    have hl := (fr_PR hP k q hq).lt
    refine ⟨hl, ?_⟩
    rintro (⟨k2, e, h⟩ | h)
    · obtain ⟨i, hi⟩ := fr_in hC k2 _ h
      exact fr_DX hD i k _ q hi hq rfl
    · omega
  refine ⟨va_P.app hP2 (fun k q hq => ?_), va_D.app hD2 (fr_DR hD) (fun i j x y hx hy hxy => ?_)⟩
  · obtain ⟨g1, g2⟩ := apart k q hq
    exact (fr_PR hP k q hq).kept (hk q.1 g1 g2)
  · obtain ⟨i2, hi2⟩ := fr_in hs i x hx
    by_cases hlt : i2 < wr.length
    · rw [List.getElem?_append_left hlt] at hi2
      obtain ⟨i3, hi3⟩ := fr_in hR i2 x hi2
      exact fr_DX hD i3 j x y hi3 hy hxy
    · rw [List.getElem?_append_right (by omega)] at hi2
      have h5 := hD1.2 _ x hi2
      rw [hxy] at h5
      exact (apart j y hy).2 h5
theorem fr_xwv (hr : va_Run p l e R s m args below meth c H locs cells slots 0 0 (F0 m pc ls st0) rest (fr_Wv D w1 (va_A wc H.size) a) (va_A wc H.size)) (hS : va_S A0 H0 H locs) (hP : va_P D vwCl (ws ++ wx) H) (hD : va_D A0 (ws ++ wx)) (hF : ∀ q, va_A wc H.size q → A0 q) (isC isR is : List Nat) (hC : isC.map (fun i => ws[i]?) = wc.map some) (hR : isR.map (fun i => ws[i]?) = wr.map some) (hn : va_nd isR = true) (hdis : isR.all (fun i => !(isC.contains i)) = true) (hn2 : va_nd is = true) (hs : is.map (fun i => (wr ++ w1)[i]?) = ws2.map some)
    (kk : ∀ (H1 : Heap) (locs1 : List Loc), va_P D vwCl (ws2 ++ wx) H1 → va_D A0 (ws2 ++ wx) → va_S A0 H0 H1 locs1 → W p l e R s m args below meth c H1 locs1 cells slots Q (F0 m (pc + 3) ls rest)) : W p l e R s m args below meth c H locs cells slots Q (F0 m pc ls st0) := by
  refine va_callv hr hS (fun q _ h => hF q h) hF (fun u t H1 locs1 ht hvm hw hB hz hk hS1 => ?_)
  obtain ⟨hP1, hD1⟩ := hB
  rw [ht] at hP1
  obtain ⟨hP2, hD2⟩ := fr_after2 hP hD isC isR is hC hR hn hdis hn2 hs hk hF hP1 hD1
  exact kk H1 locs1 hP2 hD2 hS1
theorem fr_xwi {r : Int32} (hr : va_Run p l e R s m args below meth c H locs cells slots 0 0 (F0 m pc ls st0) rest (fr_Wi D w1 (va_A wc H.size) r a) (va_A wc H.size)) (hS : va_S A0 H0 H locs) (hP : va_P D vwCl (ws ++ wx) H) (hD : va_D A0 (ws ++ wx)) (hF : ∀ q, va_A wc H.size q → A0 q) (isC isR is : List Nat) (hC : isC.map (fun i => ws[i]?) = wc.map some) (hR : isR.map (fun i => ws[i]?) = wr.map some) (hn : va_nd isR = true) (hdis : isR.all (fun i => !(isC.contains i)) = true) (hn2 : va_nd is = true) (hs : is.map (fun i => (wr ++ w1)[i]?) = ws2.map some)
    (kk : ∀ (H1 : Heap) (locs1 : List Loc), va_P D vwCl (ws2 ++ wx) H1 → va_D A0 (ws2 ++ wx) → va_S A0 H0 H1 locs1 → W p l e R s m args below meth c H1 locs1 cells slots Q (F0 m (pc + 3) ls (.int r :: rest))) : W p l e R s m args below meth c H locs cells slots Q (F0 m pc ls st0) := by
  refine va_calli hr hS (fun q _ h => hF q h) hF (fun x u t H1 locs1 ht hvm hw hB hz hk hS1 => ?_)
  obtain ⟨hP1, hD1⟩ := hB
  rw [ht] at hP1
  subst hw
  obtain ⟨hP2, hD2⟩ := fr_after2 hP hD isC isR is hC hR hn hdis hn2 hs hk hF hP1 hD1
  exact kk H1 locs1 hP2 hD2 hS1
theorem fr_xwl {r : Int64} (hr : va_Run p l e R s m args below meth c H locs cells slots 0 0 (F0 m pc ls st0) rest (fr_Wl D w1 (va_A wc H.size) r a) (va_A wc H.size)) (hS : va_S A0 H0 H locs) (hP : va_P D vwCl (ws ++ wx) H) (hD : va_D A0 (ws ++ wx)) (hF : ∀ q, va_A wc H.size q → A0 q) (isC isR is : List Nat) (hC : isC.map (fun i => ws[i]?) = wc.map some) (hR : isR.map (fun i => ws[i]?) = wr.map some) (hn : va_nd isR = true) (hdis : isR.all (fun i => !(isC.contains i)) = true) (hn2 : va_nd is = true) (hs : is.map (fun i => (wr ++ w1)[i]?) = ws2.map some)
    (kk : ∀ (H1 : Heap) (locs1 : List Loc), va_P D vwCl (ws2 ++ wx) H1 → va_D A0 (ws2 ++ wx) → va_S A0 H0 H1 locs1 → W p l e R s m args below meth c H1 locs1 cells slots Q (F0 m (pc + 3) ls (.long r :: rest))) : W p l e R s m args below meth c H locs cells slots Q (F0 m pc ls st0) := by
  refine va_calll hr hS (fun q _ h => hF q h) hF (fun x u t H1 locs1 ht hvm hw hB hz hk hS1 => ?_)
  obtain ⟨hP1, hD1⟩ := hB
  rw [ht] at hP1
  subst hw
  obtain ⟨hP2, hD2⟩ := fr_after2 hP hD isC isR is hC hR hn hdis hn2 hs hk hF hP1 hD1
  exact kk H1 locs1 hP2 hD2 hS1
theorem fr_xwxi {r : Int32} {w1 ws2 : Nat × Nat → va_W} (hr : va_Run p l e R s m args below meth c H locs cells slots 0 0 (F0 m pc ls st0) rest (fr_Xi D w1 (va_A wc H.size) r a) (va_A wc H.size)) (hS : va_S A0 H0 H locs) (hP : va_P D vwCl (ws ++ wx) H) (hD : va_D A0 (ws ++ wx)) (hF : ∀ q, va_A wc H.size q → A0 q) (isC isR is : List Nat) (hC : isC.map (fun i => ws[i]?) = wc.map some) (hR : isR.map (fun i => ws[i]?) = wr.map some) (hn : va_nd isR = true) (hdis : isR.all (fun i => !(isC.contains i)) = true) (hn2 : va_nd is = true) (hs : ∀ u, is.map (fun i => (wr ++ w1 u)[i]?) = (ws2 u).map some)
    (kk : ∀ (u : Nat × Nat) (H1 : Heap) (locs1 : List Loc), va_P D vwCl (ws2 u ++ wx) H1 → va_D A0 (ws2 u ++ wx) → va_S A0 H0 H1 locs1 → W p l e R s m args below meth c H1 locs1 cells slots Q (F0 m (pc + 3) ls (.int r :: rest))) : W p l e R s m args below meth c H locs cells slots Q (F0 m pc ls st0) := by
  refine va_calli hr hS (fun q _ h => hF q h) hF (fun x u t H1 locs1 ht hvm hw hB hz hk hS1 => ?_)
  obtain ⟨hP1, hD1⟩ := hB
  rw [ht] at hP1
  subst hw
  obtain ⟨hP2, hD2⟩ := fr_after2 hP hD isC isR is hC hR hn hdis hn2 (hs u) hk hF hP1 hD1
  exact kk u H1 locs1 hP2 hD2 hS1
end FRX
