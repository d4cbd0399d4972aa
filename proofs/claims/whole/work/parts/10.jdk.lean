set_option maxHeartbeats 4000000 in
set_option maxRecDepth 100000 in
theorem t_J7_fill_53178_5 {p : Program} {l : Launch} {e : Env} {s : State} {m : MethodId} {args : Array Value} {below : List Frame} {meth : Method} {c : Code} {D : va_G} {cI cJ cZ cR cN : ClassId} {A : Nat → Prop} {a_y0 : Nat} {y0_n : Nat} {F : Nat} {x1 : Int32} {y0' : Nat → Int32} (hB : fr_BX p s m args meth c cJ7_fill_53178 none 4 RJ7 wsJ7_fill_53178) (hcx : fr_cx D cI cJ cZ cR cN s) (hA : ∀ q, s.heap.size ≤ q → A q) : ∀ (n : Nat) (y0 : Nat → Int32) (v2 : Int32) (v3 : Int32) (H : Heap) (locs : List Loc) (ls : Array Slot), m_J7_fill_53178_b5 F y0_n x1 n y0 v2 v3 = some y0' → va_P D vwCl [(a_y0, .inl (cI, y0_n, .inl y0))] H → va_D A [(a_y0, .inl (cI, y0_n, .inl y0))] → va_S A s.heap H locs → lv_has ls 4 [(0, .ref a_y0), (1, .int x1), (2, .int v2), (3, .int v3)] → W p l e ({ frames := 0, cells := 0, slots := 0, locals := 0 } : Room) s m args below meth c H locs 0 0 (MQ below (fr_Wv D [(a_y0, .inl (cI, y0_n, .inl y0'))] A) args s 0 0 A) (F0 m 5 ls []) := by
  obtain ⟨hx, hb, hr, hml, hown, hts, hlocks⟩ := id hB
  have hK := hcx.1
  intro n
  induction n with
  | zero =>
    intro y0 v2 v3 H locs ls hm
    have hm : none = some _ := hm
    cases hm
  | succ n ih =>
    intro y0 v2 v3 H locs ls hm hP hD hS hl
    rw [m_J7_fill_53178_b5] at hm
    refine lv_iload_n hx hb dJ7_fill_53178_5 rfl (lv_at hl 2 rfl) ?_
    refine lv_iload_n hx hb dJ7_fill_53178_6 rfl (lv_at hl 3 rfl) ?_
    refine lv_icmp_ge (tgt := 20) hx hb dJ7_fill_53178_7 (by decide) (fun c_1 => ?_) (fun c_1 => ?_)
    · have hm := fr_ifp c_1 hm
      cases hm
      exact W.vret hx hb hr (fun t ht hW => ⟨⟨(), rfl, trivial, by rw [ht]; exact hP, hD⟩, hS.F ht⟩) hS.2.2 dJ7_fill_53178_20 hlocks
    · have hm := fr_ifn c_1 hm
      refine lv_aload_n hx hb dJ7_fill_53178_10 rfl (lv_at hl 0 rfl) ?_
      refine lv_iload_n hx hb dJ7_fill_53178_11 rfl (lv_at hl 2 rfl) ?_
      refine lv_iload_n hx hb dJ7_fill_53178_12 rfl (lv_at hl 1 rfl) ?_
      obtain ⟨h_2, hm⟩ := fr_ck hm
      refine va_iast hx hb hK hP hD hS 0 0 rfl rfl h_2 dJ7_fill_53178_13 (fun H locs hP hD hS => ?_)
      have hP : va_P D vwCl [(a_y0, .inl (cI, y0_n, .inl (upd y0 v2.toNatClampNeg x1)))] H := hP
      have hD : va_D A [(a_y0, .inl (cI, y0_n, .inl (upd y0 v2.toNatClampNeg x1)))] := hD
      refine lv_iinc (v := (v2 + 1)) (lv' := [(2, .int (v2 + 1)), (0, .ref a_y0), (1, .int x1), (3, .int v3)]) hx hb dJ7_fill_53178_14 hl (k := 2) rfl rfl (by decide) rfl (fun ls hl => ?_)
      refine lv_goto (tgt := 5) hx hb dJ7_fill_53178_17 (by decide) ?_
      exact ih _ _ _ _ _ _ hm hP hD hS (lv_sub hl [1, 2, 0, 3] rfl)
set_option maxHeartbeats 4000000 in
set_option maxRecDepth 100000 in
theorem t_J7_fill_53178_0 {p : Program} {l : Launch} {e : Env} {s : State} {m : MethodId} {args : Array Value} {below : List Frame} {meth : Method} {c : Code} {D : va_G} {cI cJ cZ cR cN : ClassId} {A : Nat → Prop} {a_y0 : Nat} {y0 : Nat → Int32} {y0_n : Nat} {F : Nat} {x1 : Int32} {H : Heap} {y0' : Nat → Int32} (hB : fr_BX p s m args meth c cJ7_fill_53178 none 4 RJ7 wsJ7_fill_53178) (hcx : fr_cx D cI cJ cZ cR cN s) (hA : ∀ q, s.heap.size ≤ q → A q) (hm : m_J7_fill_53178 F y0_n x1 y0 = some y0') {locs : List Loc} {ls : Array Slot} (hP : va_P D vwCl [(a_y0, .inl (cI, y0_n, .inl y0))] H) (hD : va_D A [(a_y0, .inl (cI, y0_n, .inl y0))]) (hS : va_S A s.heap H locs) (hl : lv_has ls 4 [(0, .ref a_y0), (1, .int x1)]) : W p l e ({ frames := 0, cells := 0, slots := 0, locals := 0 } : Room) s m args below meth c H locs 0 0 (MQ below (fr_Wv D [(a_y0, .inl (cI, y0_n, .inl y0'))] A) args s 0 0 A) (F0 m 0 ls []) := by
  obtain ⟨hx, hb, hr, hml, hown, hts, hlocks⟩ := id hB
  have hK := hcx.1
  unfold m_J7_fill_53178 at hm
  refine lv_iconst (v := (0 : Int32)) hx hb dJ7_fill_53178_0 (by decide) ?_
  refine lv_istore_n (lv' := [(2, .int (0 : Int32)), (0, .ref a_y0), (1, .int x1)]) hx hb dJ7_fill_53178_1 rfl hl (by decide) rfl (fun ls hl => ?_)
  refine lv_aload_n hx hb dJ7_fill_53178_2 rfl (lv_at hl 1 rfl) ?_
  refine va_alen (v := (Int32.ofNat y0_n)) hx hb hK hP 0 0 rfl rfl rfl dJ7_fill_53178_3 ?_
  refine lv_istore_n (lv' := [(3, .int (Int32.ofNat y0_n)), (2, .int (0 : Int32)), (0, .ref a_y0), (1, .int x1)]) hx hb dJ7_fill_53178_4 rfl hl (by decide) rfl (fun ls hl => ?_)
  exact t_J7_fill_53178_5 hB hcx hA _ _ _ _ _ _ _ hm hP hD hS (lv_sub hl [2, 3, 1, 0] rfl)
set_option maxHeartbeats 4000000 in
set_option maxRecDepth 100000 in
theorem c_J7_fill_53178 {l : Launch} {D : va_G} {cI cJ cZ cR cN : ClassId} {a_y0 : Nat} {y0 : Nat → Int32} {y0_n : Nat} {F : Nat} {x1 : Int32} {y0' : Nat → Int32} {sz : Nat} (hm : m_J7_fill_53178 F y0_n x1 y0 = some y0') : Met l yJ7_fill_53178 wsJ7_fill_53178 ({ frames := 0, cells := 0, slots := 0, locals := 0 } : Room) (fr_Pw D cI cJ cZ cR cN [.ref a_y0, .int x1] [(a_y0, .inl (cI, y0_n, .inl y0))] sz) (fr_Wv D [(a_y0, .inl (cI, y0_n, .inl y0'))] (va_A [(a_y0, .inl (cI, y0_n, .inl y0))] sz)) 0 0 (va_A [(a_y0, .inl (cI, y0_n, .inl y0))] sz) := by
  refine fr_ofW (cc := cJ7_fill_53178) (maxL := 4) (ret := none) (by decide +kernel) rfl ?_
  intro p e s m args below meth c s₁ B hml hv
  obtain ⟨rfl, hsz, hP, hD0, hcx⟩ := hv
  subst hsz
  have hD := hD0.self (sz := s.heap.size)
  have hB : fr_BX p s m _ meth c cJ7_fill_53178 none 4 RJ7 wsJ7_fill_53178 := ⟨B.exec, B.bytes, B.returns, hml, findClass_of_methodNamed B.named, atoms_spec (ws := wsJ7_fill_53178) B.pre, B.notSynchronized⟩
  have hl := lv_entry ([.ref a_y0, .int x1]) (n := 4) (Nat.le_of_ble_eq_true rfl)
  rw [lg_entry_eq]
  generalize (lg_sl ([.ref a_y0, .int x1]) ++ List.replicate (4 - (lg_sl ([.ref a_y0, .int x1])).length) Slot.unset).toArray = ls at hl ⊢
  have hl : lv_has ls 4 [(0, .ref a_y0), (1, .int x1)] := hl
  exact t_J7_fill_53178_0 hB hcx (fun q h => Or.inr h) hm hP hD va_S.rf hl
set_option maxHeartbeats 4000000 in
set_option maxRecDepth 100000 in
theorem t_J7_fill_d0a16_6 {p : Program} {l : Launch} {e : Env} {s : State} {m : MethodId} {args : Array Value} {below : List Frame} {meth : Method} {c : Code} {D : va_G} {cI cJ cZ cR cN : ClassId} {A : Nat → Prop} {a_y0 : Nat} {y0_n : Nat} {F : Nat} {x1 : Int64} {y0' : Nat → Int64} (hB : fr_BX p s m args meth c cJ7_fill_d0a16 none 5 RJ7 wsJ7_fill_d0a16) (hcx : fr_cx D cI cJ cZ cR cN s) (hA : ∀ q, s.heap.size ≤ q → A q) : ∀ (n : Nat) (y0 : Nat → Int64) (v3 : Int32) (v4 : Int32) (H : Heap) (locs : List Loc) (ls : Array Slot), m_J7_fill_d0a16_b6 F y0_n x1 n y0 v3 v4 = some y0' → va_P D vwCl [(a_y0, .inl (cJ, y0_n, .inr (.inl y0)))] H → va_D A [(a_y0, .inl (cJ, y0_n, .inr (.inl y0)))] → va_S A s.heap H locs → lv_has ls 5 [(0, .ref a_y0), (1, .long x1), (3, .int v3), (4, .int v4)] → W p l e ({ frames := 0, cells := 0, slots := 0, locals := 0 } : Room) s m args below meth c H locs 0 0 (MQ below (fr_Wv D [(a_y0, .inl (cJ, y0_n, .inr (.inl y0')))] A) args s 0 0 A) (F0 m 6 ls []) := by
  obtain ⟨hx, hb, hr, hml, hown, hts, hlocks⟩ := id hB
  have hK := hcx.1
  intro n
  induction n with
  | zero =>
    intro y0 v3 v4 H locs ls hm
    have hm : none = some _ := hm
    cases hm
  | succ n ih =>
    intro y0 v3 v4 H locs ls hm hP hD hS hl
    rw [m_J7_fill_d0a16_b6] at hm
    refine lv_iload_n hx hb dJ7_fill_d0a16_6 rfl (lv_at hl 2 rfl) ?_
    refine lv_iload hx hb dJ7_fill_d0a16_7 (lv_at hl 3 rfl) ?_
    refine lv_icmp_ge (tgt := 22) hx hb dJ7_fill_d0a16_9 (by decide) (fun c_1 => ?_) (fun c_1 => ?_)
    · have hm := fr_ifp c_1 hm
      cases hm
      exact W.vret hx hb hr (fun t ht hW => ⟨⟨(), rfl, trivial, by rw [ht]; exact hP, hD⟩, hS.F ht⟩) hS.2.2 dJ7_fill_d0a16_22 hlocks
    · have hm := fr_ifn c_1 hm
      refine lv_aload_n hx hb dJ7_fill_d0a16_12 rfl (lv_at hl 0 rfl) ?_
      refine lv_iload_n hx hb dJ7_fill_d0a16_13 rfl (lv_at hl 2 rfl) ?_
      refine lv_lload_n hx hb dJ7_fill_d0a16_14 rfl (lv_at hl 1 rfl) ?_
      obtain ⟨h_2, hm⟩ := fr_ck hm
      refine va_last hx hb hK hP hD hS 0 1 rfl rfl h_2 dJ7_fill_d0a16_15 (fun H locs hP hD hS => ?_)
      have hP : va_P D vwCl [(a_y0, .inl (cJ, y0_n, .inr (.inl (vp_updL y0 v3.toNatClampNeg x1))))] H := hP
      have hD : va_D A [(a_y0, .inl (cJ, y0_n, .inr (.inl (vp_updL y0 v3.toNatClampNeg x1))))] := hD
      refine lv_iinc (v := (v3 + 1)) (lv' := [(3, .int (v3 + 1)), (0, .ref a_y0), (1, .long x1), (4, .int v4)]) hx hb dJ7_fill_d0a16_16 hl (k := 2) rfl rfl (by decide) rfl (fun ls hl => ?_)
      refine lv_goto (tgt := 6) hx hb dJ7_fill_d0a16_19 (by decide) ?_
      exact ih _ _ _ _ _ _ hm hP hD hS (lv_sub hl [1, 2, 0, 3] rfl)
set_option maxHeartbeats 4000000 in
set_option maxRecDepth 100000 in
theorem t_J7_fill_d0a16_0 {p : Program} {l : Launch} {e : Env} {s : State} {m : MethodId} {args : Array Value} {below : List Frame} {meth : Method} {c : Code} {D : va_G} {cI cJ cZ cR cN : ClassId} {A : Nat → Prop} {a_y0 : Nat} {y0 : Nat → Int64} {y0_n : Nat} {F : Nat} {x1 : Int64} {H : Heap} {y0' : Nat → Int64} (hB : fr_BX p s m args meth c cJ7_fill_d0a16 none 5 RJ7 wsJ7_fill_d0a16) (hcx : fr_cx D cI cJ cZ cR cN s) (hA : ∀ q, s.heap.size ≤ q → A q) (hm : m_J7_fill_d0a16 F y0_n x1 y0 = some y0') {locs : List Loc} {ls : Array Slot} (hP : va_P D vwCl [(a_y0, .inl (cJ, y0_n, .inr (.inl y0)))] H) (hD : va_D A [(a_y0, .inl (cJ, y0_n, .inr (.inl y0)))]) (hS : va_S A s.heap H locs) (hl : lv_has ls 5 [(0, .ref a_y0), (1, .long x1)]) : W p l e ({ frames := 0, cells := 0, slots := 0, locals := 0 } : Room) s m args below meth c H locs 0 0 (MQ below (fr_Wv D [(a_y0, .inl (cJ, y0_n, .inr (.inl y0')))] A) args s 0 0 A) (F0 m 0 ls []) := by
  obtain ⟨hx, hb, hr, hml, hown, hts, hlocks⟩ := id hB
  have hK := hcx.1
  unfold m_J7_fill_d0a16 at hm
  refine lv_iconst (v := (0 : Int32)) hx hb dJ7_fill_d0a16_0 (by decide) ?_
  refine lv_istore_n (lv' := [(3, .int (0 : Int32)), (0, .ref a_y0), (1, .long x1)]) hx hb dJ7_fill_d0a16_1 rfl hl (by decide) rfl (fun ls hl => ?_)
  refine lv_aload_n hx hb dJ7_fill_d0a16_2 rfl (lv_at hl 1 rfl) ?_
  refine va_alen (v := (Int32.ofNat y0_n)) hx hb hK hP 0 1 rfl rfl rfl dJ7_fill_d0a16_3 ?_
  refine lv_istore (lv' := [(4, .int (Int32.ofNat y0_n)), (3, .int (0 : Int32)), (0, .ref a_y0), (1, .long x1)]) hx hb dJ7_fill_d0a16_4 hl (by decide) rfl (fun ls hl => ?_)
  exact t_J7_fill_d0a16_6 hB hcx hA _ _ _ _ _ _ _ hm hP hD hS (lv_sub hl [2, 3, 1, 0] rfl)
set_option maxHeartbeats 4000000 in
set_option maxRecDepth 100000 in
theorem c_J7_fill_d0a16 {l : Launch} {D : va_G} {cI cJ cZ cR cN : ClassId} {a_y0 : Nat} {y0 : Nat → Int64} {y0_n : Nat} {F : Nat} {x1 : Int64} {y0' : Nat → Int64} {sz : Nat} (hm : m_J7_fill_d0a16 F y0_n x1 y0 = some y0') : Met l yJ7_fill_d0a16 wsJ7_fill_d0a16 ({ frames := 0, cells := 0, slots := 0, locals := 0 } : Room) (fr_Pw D cI cJ cZ cR cN [.ref a_y0, .long x1] [(a_y0, .inl (cJ, y0_n, .inr (.inl y0)))] sz) (fr_Wv D [(a_y0, .inl (cJ, y0_n, .inr (.inl y0')))] (va_A [(a_y0, .inl (cJ, y0_n, .inr (.inl y0)))] sz)) 0 0 (va_A [(a_y0, .inl (cJ, y0_n, .inr (.inl y0)))] sz) := by
  refine fr_ofW (cc := cJ7_fill_d0a16) (maxL := 5) (ret := none) (by decide +kernel) rfl ?_
  intro p e s m args below meth c s₁ B hml hv
  obtain ⟨rfl, hsz, hP, hD0, hcx⟩ := hv
  subst hsz
  have hD := hD0.self (sz := s.heap.size)
  have hB : fr_BX p s m _ meth c cJ7_fill_d0a16 none 5 RJ7 wsJ7_fill_d0a16 := ⟨B.exec, B.bytes, B.returns, hml, findClass_of_methodNamed B.named, atoms_spec (ws := wsJ7_fill_d0a16) B.pre, B.notSynchronized⟩
  have hl := lv_entry ([.ref a_y0, .long x1]) (n := 5) (Nat.le_of_ble_eq_true rfl)
  rw [lg_entry_eq]
  generalize (lg_sl ([.ref a_y0, .long x1]) ++ List.replicate (5 - (lg_sl ([.ref a_y0, .long x1])).length) Slot.unset).toArray = ls at hl ⊢
  have hl : lv_has ls 5 [(0, .ref a_y0), (1, .long x1)] := hl
  exact t_J7_fill_d0a16_0 hB hcx (fun q h => Or.inr h) hm hP hD va_S.rf hl
set_option maxHeartbeats 4000000 in
set_option maxRecDepth 100000 in
theorem t_J9_floorMod_7cf53_0 {p : Program} {l : Launch} {e : Env} {s : State} {m : MethodId} {args : Array Value} {below : List Frame} {meth : Method} {c : Code} {D : va_G} {cI cJ cZ cR cN : ClassId} {x0 : Int32} {x1 : Int32} {H : Heap} {r : Int32} (hB : fr_BX p s m args meth c cJ9_floorMod_7cf53 (some .int) 3 RJ9 wsJ9_floorMod_7cf53) (hcx : fr_cx D cI cJ cZ cR cN s) (hm : m_J9_floorMod_7cf53 x0 x1 = some r) {locs : List Loc} {ls : Array Slot} (hS : va_S (fun _ => False) s.heap H locs) (hl : lv_has ls 3 [(0, .int x0), (1, .int x1)]) : W p l e ({ frames := 0, cells := 0, slots := 0, locals := 0 } : Room) s m args below meth c H locs 0 0 (MQ below (fr_Ri H r) args s 0 0 (fun _ => False)) (F0 m 0 ls []) := by
  obtain ⟨hx, hb, hr, hml, hown, hts, hlocks⟩ := id hB
  have hK := hcx.1
  unfold m_J9_floorMod_7cf53 at hm
  refine lv_iload_n hx hb dJ9_floorMod_7cf53_0 rfl (lv_at hl 0 rfl) ?_
  refine lv_iload_n hx hb dJ9_floorMod_7cf53_1 rfl (lv_at hl 1 rfl) ?_
  obtain ⟨h_1, hm⟩ := fr_ck hm
  refine lv_irem hx hb dJ9_floorMod_7cf53_2 h_1 ?_
  refine lv_istore_n (lv' := [(2, .int (x0 - x0 / x1 * x1)), (0, .int x0), (1, .int x1)]) hx hb dJ9_floorMod_7cf53_3 rfl hl (by decide) rfl (fun ls hl => ?_)
  refine lv_iload_n hx hb dJ9_floorMod_7cf53_4 rfl (lv_at hl 1 rfl) ?_
  refine lv_iload_n hx hb dJ9_floorMod_7cf53_5 rfl (lv_at hl 2 rfl) ?_
  refine lv_ixor hx hb dJ9_floorMod_7cf53_6 ?_
  refine lv_if_ge (tgt := 18) hx hb dJ9_floorMod_7cf53_7 (by decide) (fun c_2 => ?_) (fun c_2 => ?_)
  · have hm := fr_ifp c_2 hm
    refine lv_iload_n hx hb dJ9_floorMod_7cf53_18 rfl (lv_at hl 0 rfl) ?_
    exact W.iret (v := (x0 - x0 / x1 * x1)) hx hb hr (fun t ht hW => ⟨⟨_, (), rfl, (Option.some.inj hm), ht⟩, hS.F ht⟩) hS.2.2 dJ9_floorMod_7cf53_19 hlocks
  · have hm := fr_ifn c_2 hm
    refine lv_iload_n hx hb dJ9_floorMod_7cf53_10 rfl (lv_at hl 0 rfl) ?_
    refine lv_if_eq (tgt := 18) hx hb dJ9_floorMod_7cf53_11 (by decide) (fun c_3 => ?_) (fun c_3 => ?_)
    · have hm := fr_ifp c_3 hm
      refine lv_iload_n hx hb dJ9_floorMod_7cf53_18 rfl (lv_at hl 0 rfl) ?_
      exact W.iret (v := (x0 - x0 / x1 * x1)) hx hb hr (fun t ht hW => ⟨⟨_, (), rfl, (Option.some.inj hm), ht⟩, hS.F ht⟩) hS.2.2 dJ9_floorMod_7cf53_19 hlocks
    · have hm := fr_ifn c_3 hm
      refine lv_iload_n hx hb dJ9_floorMod_7cf53_14 rfl (lv_at hl 0 rfl) ?_
      refine lv_iload_n hx hb dJ9_floorMod_7cf53_15 rfl (lv_at hl 2 rfl) ?_
      refine lv_iadd hx hb dJ9_floorMod_7cf53_16 ?_
      exact W.iret (v := ((x0 - x0 / x1 * x1) + x1)) hx hb hr (fun t ht hW => ⟨⟨_, (), rfl, (Option.some.inj hm), ht⟩, hS.F ht⟩) hS.2.2 dJ9_floorMod_7cf53_17 hlocks
set_option maxHeartbeats 4000000 in
set_option maxRecDepth 100000 in
theorem c_J9_floorMod_7cf53 {l : Launch} {D : va_G} {cI cJ cZ cR cN : ClassId} {x0 : Int32} {x1 : Int32} {H0 : Heap} {r : Int32} (hm : m_J9_floorMod_7cf53 x0 x1 = some r) : Met l yJ9_floorMod_7cf53 wsJ9_floorMod_7cf53 ({ frames := 0, cells := 0, slots := 0, locals := 0 } : Room) (fr_Pr D cI cJ cZ cR cN [.int x0, .int x1] H0) (fr_Ri H0 r) 0 0 (fun _ => False) := by
  refine fr_ofW (cc := cJ9_floorMod_7cf53) (maxL := 3) (ret := (some .int)) (by decide +kernel) rfl ?_
  intro p e s m args below meth c s₁ B hml hv
  obtain ⟨rfl, hH, hcx⟩ := hv
  subst hH
  have hB : fr_BX p s m _ meth c cJ9_floorMod_7cf53 (some .int) 3 RJ9 wsJ9_floorMod_7cf53 := ⟨B.exec, B.bytes, B.returns, hml, findClass_of_methodNamed B.named, atoms_spec (ws := wsJ9_floorMod_7cf53) B.pre, B.notSynchronized⟩
  have hl := lv_entry ([.int x0, .int x1]) (n := 3) (Nat.le_of_ble_eq_true rfl)
  rw [lg_entry_eq]
  generalize (lg_sl ([.int x0, .int x1]) ++ List.replicate (3 - (lg_sl ([.int x0, .int x1])).length) Slot.unset).toArray = ls at hl ⊢
  have hl : lv_has ls 3 [(0, .int x0), (1, .int x1)] := hl
  exact t_J9_floorMod_7cf53_0 hB hcx hm va_S.rf hl
