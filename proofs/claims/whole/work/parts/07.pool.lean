/-- f' is f but at k, where it is g -/
def fr_pu (f : Nat → Int32) (k : Nat) (g : Int32) (f' : Nat → Int32) : Prop := f' k = g ∧ ∀ i, i ≠ k → f' i = f i
theorem fr_pu_u {f : Nat → Int32} {k : Nat} {g : Int32} : fr_pu f k g (upd f k g) := ⟨pk_us, fun _ h => pk_un h⟩
theorem fr_pu_s {f : Nat → Int32} {k : Nat} : fr_pu f k (f k) f := ⟨rfl, fun _ _ => rfl⟩
theorem fr_pset1 {ad : Nat → Nat} {f0 f1 f2 f3 f4 f5 f6 f7 f8 e0 e1 e2 e3 e4 e5 e6 e7 e8 : Nat → Int32} {g0 g1 g2 g3 g4 g5 g6 g7 g8 : Int32} {X : va_W} {k : Nat} (hk : k < 40) (h0 : fr_pu f0 k g0 e0) (h1 : fr_pu f1 k g1 e1) (h2 : fr_pu f2 k g2 e2) (h3 : fr_pu f3 k g3 e3) (h4 : fr_pu f4 k g4 e4) (h5 : fr_pu f5 k g5 e5) (h6 : fr_pu f6 k g6 e6) (h7 : fr_pu f7 k g7 e7) (h8 : fr_pu f8 k g8 e8) : (X ++ fr_pool ad f0 f1 f2 f3 f4 f5 f6 f7 f8).set (X.length + k) (ad k, .inr (ob_X1 g0 g1 g2 g3 g4 g5 g6 g7 g8)) = X ++ fr_pool ad e0 e1 e2 e3 e4 e5 e6 e7 e8 := by
  apply List.ext_getElem?
  intro i
  by_cases hi : i < X.length
  · rw [List.getElem?_set_ne (by omega), List.getElem?_append_left hi, List.getElem?_append_left hi]
  · rw [List.getElem?_append_right (by omega : X.length ≤ i)]
    by_cases hik : i = X.length + k
    · subst hik
      rw [List.getElem?_set_self (by simp [fr_pool]; omega), Nat.add_sub_cancel_left]
      simp [fr_pool, hk, h0.1, h1.1, h2.1, h3.1, h4.1, h5.1, h6.1, h7.1, h8.1]
    · rw [List.getElem?_set_ne (by omega), List.getElem?_append_right (by omega : X.length ≤ i)]
      by_cases h40 : i - X.length < 40
      · have hne : i - X.length ≠ k := by omega
        simp [fr_pool, h40, h0.2 _ hne, h1.2 _ hne, h2.2 _ hne, h3.2 _ hne, h4.2 _ hne, h5.2 _ hne, h6.2 _ hne, h7.2 _ hne, h8.2 _ hne]
      · simp [fr_pool, h40]
theorem fr_pset {ad : Nat → Nat} {f0 f1 f2 f3 f4 f5 f6 f7 f8 : Nat → Int32} {v : Int32} {X : va_W} {k : Nat} (hk : k < 40) : (X ++ fr_pool ad f0 f1 f2 f3 f4 f5 f6 f7 f8).set (X.length + k) (ad k, .inr (1, [.int (f0 k), .int (f1 k), .int (f2 k), .int (f3 k), .int (f4 k), .int (f5 k), .int (f6 k), .int (f7 k), .int (f8 k)].set 8 (.int v))) = X ++ fr_pool ad f0 f1 f2 f3 f4 f5 f6 f7 (upd f8 k v) := fr_pset1 hk fr_pu_s fr_pu_s fr_pu_s fr_pu_s fr_pu_s fr_pu_s fr_pu_s fr_pu_s fr_pu_u
theorem fr_oneD {A : Nat → Prop} {ws : va_W} {q : Nat} {x : Nat × va_E} (hD : va_D A ws) (h : ws[q]? = some x) : va_D A [x] := by
  refine ⟨fun i j a b ha hb _ => ?_, fun k y hk => ?_⟩
  · have h1 := (List.getElem?_eq_some_iff.mp ha).1
    have h2 := (List.getElem?_eq_some_iff.mp hb).1
    simp at h1 h2
    omega
  · cases k with
    | zero => cases hk; exact hD.2 q _ h
    | succ k => simp at hk
theorem fr_oneF {A : Nat → Prop} {ws : va_W} {q : Nat} {x : Nat × va_E} {H0 H : Heap} {locs : List Loc} (hD : va_D A ws) (hS : va_S A H0 H locs) (hA : ∀ q, H0.size ≤ q → A q) (h : ws[q]? = some x) : ∀ y, va_A [x] H.size y → A y := by
  intro y hy
  rcases hy with ⟨k, e, hk⟩ | hy
  · cases k with
    | zero => cases hk; exact hD.2 q _ h
    | succ k => simp at hk
  · exact hA y (Nat.le_trans hS.1 hy)
theorem fr_rwpv {p : Program} {l : Launch} {e : Env} {R : Room} {s : State} {m : MethodId} {args : Array Value} {below : List Frame} {meth : Method} {c : Code} {H : Heap} {locs : List Loc} {cells slots : Nat} {Q : State → Prop} {pc : Nat} {ls : Array Slot} {rest st0 : List Value} {a : Array Value} {A0 : Nat → Prop} {H0 : Heap} {D : va_G} {ad : Nat → Nat} {f0 f1 f2 f3 f4 f5 f6 f7 f8 e0 e1 e2 e3 e4 e5 e6 e7 e8 : Nat → Int32} {g0 g1 g2 g3 g4 g5 g6 g7 g8 : Int32} {X : va_W} {k : Nat} (hr : va_Run p l e R s m args below meth c H locs cells slots 0 0 (F0 m pc ls st0) rest (fr_Wv D [(ad k, .inr (ob_X1 g0 g1 g2 g3 g4 g5 g6 g7 g8))] (va_A [(ad k, .inr (ob_X1 (f0 k) (f1 k) (f2 k) (f3 k) (f4 k) (f5 k) (f6 k) (f7 k) (f8 k)))] H.size) a) (va_A [(ad k, .inr (ob_X1 (f0 k) (f1 k) (f2 k) (f3 k) (f4 k) (f5 k) (f6 k) (f7 k) (f8 k)))] H.size)) (hS : va_S A0 H0 H locs) (hP : va_P D vwCl (X ++ fr_pool ad f0 f1 f2 f3 f4 f5 f6 f7 f8) H) (hD : va_D A0 (X ++ fr_pool ad f0 f1 f2 f3 f4 f5 f6 f7 f8)) (hk : k < 40) (hF : ∀ q, va_A [(ad k, .inr (ob_X1 (f0 k) (f1 k) (f2 k) (f3 k) (f4 k) (f5 k) (f6 k) (f7 k) (f8 k)))] H.size q → A0 q) (h0 : fr_pu f0 k g0 e0) (h1 : fr_pu f1 k g1 e1) (h2 : fr_pu f2 k g2 e2) (h3 : fr_pu f3 k g3 e3) (h4 : fr_pu f4 k g4 e4) (h5 : fr_pu f5 k g5 e5) (h6 : fr_pu f6 k g6 e6) (h7 : fr_pu f7 k g7 e7) (h8 : fr_pu f8 k g8 e8)
    (kk : ∀ (H1 : Heap) (locs1 : List Loc), va_P D vwCl (X ++ fr_pool ad e0 e1 e2 e3 e4 e5 e6 e7 e8) H1 → va_D A0 (X ++ fr_pool ad e0 e1 e2 e3 e4 e5 e6 e7 e8) → va_S A0 H0 H1 locs1 → W p l e R s m args below meth c H1 locs1 cells slots Q (F0 m (pc + 3) ls rest)) : W p l e R s m args below meth c H locs cells slots Q (F0 m pc ls st0) := by
  refine va_callv hr hS (fun q _ h => hF q h) hF (fun u t H1 locs1 ht hvm hw hB hz hk1 hS1 => ?_)
  obtain ⟨hP1, hD1⟩ := hB
  rw [ht] at hP1
  have hpl := fr_pl (ad := ad) (f0 := f0) (f1 := f1) (f2 := f2) (f3 := f3) (f4 := f4) (f5 := f5) (f6 := f6) (f7 := f7) (f8 := f8) (X := X) hk
  have hP2 : va_P D vwCl ((X ++ fr_pool ad f0 f1 f2 f3 f4 f5 f6 f7 f8).set (X.length + k) (ad k, .inr (ob_X1 g0 g1 g2 g3 g4 g5 g6 g7 g8))) H1 := by
    intro j q hj
    by_cases hjk : j = X.length + k
    · subst hjk
      rw [List.getElem?_set_self (List.getElem?_eq_some_iff.mp hpl).1] at hj
      cases hj
      exact hP1 0 _ rfl
    · rw [List.getElem?_set_ne (Ne.symm hjk)] at hj
      refine (hP j q hj).kept (hk1 q.1 ((hP j q hj).lt) ?_)
      rintro (⟨i, e2, hi⟩ | hi)
      · cases i with
        | zero =>
          have hq : ad k = q.1 := congrArg Prod.fst (Option.some.inj hi)
          exact hjk (hD.1 j (X.length + k) q _ hj hpl hq.symm)
        | succ i => simp at hi
      · have := (hP j q hj).lt
        omega
  have hD2 := hD.set (e := .inr (ob_X1 g0 g1 g2 g3 g4 g5 g6 g7 g8)) hpl
  rw [fr_pset1 hk h0 h1 h2 h3 h4 h5 h6 h7 h8] at hP2 hD2
  exact kk H1 locs1 hP2 hD2 hS1
theorem fr_c0 : (0 : Int32).toNatClampNeg = 0 := by decide
theorem fr_c1 : (1 : Int32).toNatClampNeg = 1 := by decide
theorem fr_c2 : (2 : Int32).toNatClampNeg = 2 := by decide
theorem fr_c3 : (3 : Int32).toNatClampNeg = 3 := by decide
theorem fr_four {x : Int32} (h : ¬ (x < 0 ∨ 4 ≤ x.toNatClampNeg)) : x = 0 ∨ x = 1 ∨ x = 2 ∨ x = 3 := by
  obtain ⟨j, hj, rfl⟩ := vp_in_of (x := x) (n := 4) h (by decide)
  rcases (show j = 0 ∨ j = 1 ∨ j = 2 ∨ j = 3 by omega) with rfl | rfl | rfl | rfl
  · exact Or.inl rfl
  · exact Or.inr (Or.inl rfl)
  · exact Or.inr (Or.inr (Or.inl rfl))
  · exact Or.inr (Or.inr (Or.inr rfl))
