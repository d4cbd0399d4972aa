/-! constructors -/
abbrev fr_N (D : va_G) (ws : List Nat → va_W) (A : Nat → Prop) : Array Value → State → Outcome → State → Prop := va_Qv (S := List Nat) (fun _ => True) (fun u t => va_P D vwCl (ws u) t.heap ∧ va_D A (ws u)) A
abbrev fr_ao (U : State) : Prop := va_AO "FastestRun$Run" U ∧ va_AO "FastestRun$Road" U
abbrev fr_Pn (D : va_G) (cI cJ cZ cR cN : ClassId) (as : List Value) (ws : va_W) (sz : Nat) : Array Value → State → Prop := va_Pc as (fun U => U.heap.size = sz ∧ va_P D vwCl ws U.heap ∧ va_D (fun _ => True) ws ∧ fr_cx D cI cJ cZ cR cN U ∧ fr_ao U)
theorem fr_psn {D : va_G} {cI cJ cZ cR cN : ClassId} {s : State} {H : Heap} {as : List Value} {ws : va_W} {A : Nat → Prop} (hcx : fr_cx D cI cJ cZ cR cN s) (hao : fr_ao s) (hP : va_P D vwCl ws H) (hD : va_D A ws) : PreS s H (fr_Pn D cI cJ cZ cR cN as ws H.size) as := ⟨fun a U g mk q => ⟨q.1, q.2.1, q.2.2.1, q.2.2.2.1, q.2.2.2.2.1.calling, q.2.2.2.2.2.1.moved (Vm.Alike.refl U.vm), q.2.2.2.2.2.2.moved (Vm.Alike.refl U.vm)⟩, fun U hU hW => ⟨rfl, by rw [hU], by rw [hU]; exact hP, hD.weaken (fun _ _ _ _ => trivial), hcx.warm hW, hao.1.moved hW.alike, hao.2.moved hW.alike⟩⟩
theorem fr_aI (N : Nat) (cA : ClassId) : vp_cell cA (N, .inl (fun _ => (0 : Int32))) = arrV cA N (fun _ => defaultValue .int) := rfl
theorem fr_aZ (N : Nat) (cA : ClassId) : vp_cell cA (N, .inl (fun _ => (0 : Int32))) = arrV cA N (fun _ => defaultValue .boolean) := rfl
theorem fr_aJ (N : Nat) (cA : ClassId) : vp_cell cA (N, .inr (.inl (fun _ => (0 : Int64)))) = arrV cA N (fun _ => defaultValue .long) := rfl
theorem fr_sameA {s : State} {C : String} {c d : ClassId} (h1 : va_RA s c (.object C)) (h2 : va_RA s d (.object C)) : c = d := by
  obtain ⟨_, _, _, _, _, e1⟩ := h1
  obtain ⟨_, _, _, _, _, e2⟩ := h2
  exact Option.some.inj (e1.symm.trans e2)
theorem fr_rwn {p : Program} {l : Launch} {e : Env} {R : Room} {s : State} {m : MethodId} {args : Array Value} {below : List Frame} {meth : Method} {c : Code} {H : Heap} {locs : List Loc} {cells slots : Nat} {Q : State → Prop} {pc : Nat} {ls : Array Slot} {rest st0 : List Value} {a : Array Value} {A0 : Nat → Prop} {H0 : Heap} {D : va_G} {ws wc wr : va_W} {mc ms : Nat} {w1 ws2 : List Nat → va_W} (hr : va_Run p l e R s m args below meth c H locs cells slots mc ms (F0 m pc ls st0) rest (fr_N D w1 (va_A wc H.size) a) (va_A wc H.size)) (hS : va_S A0 H0 H locs) (hP : va_P D vwCl ws H) (hD : va_D A0 ws) (hF : ∀ q, va_A wc H.size q → A0 q) (isC isR is : List Nat) (hC : isC.map (fun i => ws[i]?) = wc.map some) (hR : isR.map (fun i => ws[i]?) = wr.map some) (hn : va_nd isR = true) (hdis : isR.all (fun i => !(isC.contains i)) = true) (hn2 : va_nd is = true) (hs : ∀ u, is.map (fun i => (wr ++ w1 u)[i]?) = (ws2 u).map some)
    (kk : ∀ (u : List Nat) (H1 : Heap) (locs1 : List Loc), va_P D vwCl (ws2 u) H1 → va_D A0 (ws2 u) → va_S A0 H0 H1 locs1 → W p l e R s m args below meth c H1 locs1 (cells + mc) (slots + ms) Q (F0 m (pc + 3) ls rest)) : W p l e R s m args below meth c H locs cells slots Q (F0 m pc ls st0) := by
  refine va_callv hr hS (fun q _ h => hF q h) hF (fun u t H1 locs1 ht hvm hw hB hz hk hS1 => ?_)
  obtain ⟨hP1, hD1⟩ := hB
  rw [ht] at hP1
  obtain ⟨hP2, hD2⟩ := fr_after hP hD isC isR is hC hR hn hdis hn2 (hs u) hk hF hP1 hD1
  exact kk u H1 locs1 hP2 hD2 hS1
abbrev oc_X0 (v0 v1 v2 v3 v4 v5 v6 v7 v8 : Value) : Nat × List Value := (0, [v0, v1, v2, v3, v4, v5, v6, v7, v8])
abbrev oc_X1 (v0 v1 v2 v3 v4 v5 v6 v7 v8 : Value) : Nat × List Value := (1, [v0, v1, v2, v3, v4, v5, v6, v7, v8])
abbrev oc_X2 (v0 v1 v2 v3 v4 v5 v6 v7 v8 v9 v10 v11 v12 v13 : Value) : Nat × List Value := (2, [v0, v1, v2, v3, v4, v5, v6, v7, v8, v9, v10, v11, v12, v13])
abbrev oc_X3 (v0 v1 : Value) : Nat × List Value := (3, [v0, v1])
abbrev oc_X4 (v0 v1 v2 : Value) : Nat × List Value := (4, [v0, v1, v2])
abbrev oc_X5 (v0 v1 v2 v3 v4 : Value) : Nat × List Value := (5, [v0, v1, v2, v3, v4])
abbrev oc_X6 (v0 v1 v2 v3 v4 v5 : Value) : Nat × List Value := (6, [v0, v1, v2, v3, v4, v5])
abbrev oc_X7 (v0 v1 v2 v3 v4 v5 v6 v7 : Value) : Nat × List Value := (7, [v0, v1, v2, v3, v4, v5, v6, v7])
abbrev oc_X8 (v0 v1 v2 v3 v4 v5 v6 v7 v8 v9 v10 v11 v12 v13 v14 v15 v16 v17 v18 v19 v20 v21 v22 v23 v24 v25 v26 v27 v28 v29 v30 v31 v32 v33 v34 v35 v36 v37 v38 v39 v40 v41 v42 v43 v44 v45 v46 v47 v48 v49 : Value) : Nat × List Value := (8, [v0, v1, v2, v3, v4, v5, v6, v7, v8, v9, v10, v11, v12, v13, v14, v15, v16, v17, v18, v19, v20, v21, v22, v23, v24, v25, v26, v27, v28, v29, v30, v31, v32, v33, v34, v35, v36, v37, v38, v39, v40, v41, v42, v43, v44, v45, v46, v47, v48, v49])
theorem in_X3_init_500_X3 : ∀ w ∈ wsX30, w ∈ wsX3_init := fun w h => List.mem_cons_of_mem _ (List.mem_append_right _ h)
set_option maxHeartbeats 8000000 in
set_option maxRecDepth 100000 in
theorem c_X3_init_500 {l : Launch} {D : va_G} {cI cJ cZ cR cN : ClassId} {a_z sz : Nat} : Met l yX3_init wsX3_init ({ frames := 1, cells := 1, slots := 500, locals := 21 } : Room) (fr_Pn D cI cJ cZ cR cN [.ref a_z, .int (500 : Int32)] [(a_z, .inr (oc_X3 .null (.int 0)))] sz) (fr_N D (fun u : List Nat => [(a_z, .inr (ob_X3 (u.getD 0 0) 0)), ((u.getD 0 0), .inl (cI, 500, .inl (fun _ => 0)))]) (va_A [(a_z, .inr (oc_X3 .null (.int 0)))] sz)) 1 500 (va_A [(a_z, .inr (oc_X3 .null (.int 0)))] sz) := by
  refine fr_ofW (cc := cX3_init) (maxL := 2) (ret := none) (by decide +kernel) rfl ?_
  intro p e s m args below meth c s₁ B hml hv
  obtain ⟨rfl, hsz, hP, hD0, hcx, hao⟩ := hv
  subst hsz
  have hx := B.exec
  have hb := B.bytes
  have hr := B.returns
  have hts := atoms_spec (ws := wsX3_init) B.pre
  have hown : s.vm.findClass RX3 = some m.cls := findClass_of_methodNamed B.named
  have hlocks := B.notSynchronized
  have hin : meth.name = "<init>" := (name_of_methodNamed B.named B.method).1
  have hK := hcx.1
  show W p l e ({ frames := 1, cells := 1, slots := 500, locals := 21 } : Room) s m _ below meth c s.heap [] 0 0 _ _
  have hD := hD0.self (sz := s.heap.size)
  generalize hAe : va_A [(a_z, .inr (oc_X3 .null (.int 0)))] s.heap.size = A at hD ⊢
  have hA : ∀ q : Nat, s.heap.size ≤ q → A q := fun q h => by rw [← hAe]; exact Or.inr h
  have hS : va_S A s.heap s.heap [] := va_S.rf
  have hl := lv_entry ([.ref a_z, .int (500 : Int32)]) (n := 2) (Nat.le_of_ble_eq_true rfl)
  rw [lg_entry_eq]
  generalize (lg_sl ([.ref a_z, .int (500 : Int32)]) ++ List.replicate (2 - (lg_sl ([.ref a_z, .int (500 : Int32)])).length) Slot.unset).toArray = ls at hl ⊢
  have hl : lv_has ls 2 [(0, .ref a_z), (1, .int (500 : Int32))] := hl
  refine lv_aload_n hx hb dX3_init_0 rfl (lv_at hl 0 rfl) ?_
  refine W.objInit hx hb hown (hts (.methodLink RX3 3 objectInit) (List.mem_of_getElem? (i := 1) rfl)) (hts (.instanceMethod objectInit) (List.mem_of_getElem? (i := 2) rfl)) (hts (.code objectInit ⟨#[0xb1]⟩ 1 none) (List.mem_of_getElem? (i := 3) rfl)) rfl (by rw [hml]; exact hl.1) rfl dX3_init_1 (Nat.le_of_ble_eq_true rfl) (Nat.le_of_ble_eq_true rfl) ?_
  refine W.eq (g2 := F0 m 4 ls []) rfl ?_
  refine lv_aload_n hx hb dX3_init_4 rfl (lv_at hl 0 rfl) ?_
  refine lv_iload_n hx hb dX3_init_5 rfl (lv_at hl 1 rfl) ?_
  refine lv_iconst (v := (0 : Int32)) hx hb dX3_init_6 (by decide) ?_
  refine va_mmax hx hb (hml.trans hl.1.symm) hown (hts (.methodLink RX3 9 Lib.Math.max.name) (List.mem_of_getElem? (i := 4) rfl)) (hts (.static Lib.Math.max.name) (List.mem_of_getElem? (i := 5) rfl)) (hts (.initialized "java/lang/Math") (List.mem_of_getElem? (i := 6) rfl)) (hts (.code Lib.Math.max.name Lib.Math.max.code 2 (some .int)) (List.mem_of_getElem? (i := 7) rfl)) (Nat.le_of_ble_eq_true rfl) (Nat.le_of_ble_eq_true rfl) (Nat.le_of_ble_eq_true rfl) (Nat.le_of_ble_eq_true rfl) dX3_init_7 ?_
  rw [show (if (500 : Int32) < (0 : Int32) then (0 : Int32) else (500 : Int32)) = (500 : Int32) from by decide]
  refine va_newa (atype := .int) (ty := .int) (N' := 500) (a0 := (500, .inl (fun _ => 0))) hx hb (hts (.arrayClass .int) (List.mem_of_getElem? (i := 8) rfl)) rfl hK hP hD hS hA (fr_aI 500) (by decide +kernel) (by decide +kernel) (by decide +kernel) (by decide +kernel) (by decide +kernel) dX3_init_10 (fun q1 cA H hKn hP hD hS => ?_)
  obtain rfl : cI = cA := Option.some.inj ((hK.2 0 _ rfl).2.symm.trans (hKn.2 5 _ rfl).2)
  have hP : va_P D vwCl [(a_z, .inr (oc_X3 .null (.int 0))), (q1, .inl (cI, 500, .inl (fun _ => 0)))] H := hP
  have hD : va_D A [(a_z, .inr (oc_X3 .null (.int 0))), (q1, .inl (cI, 500, .inl (fun _ => 0)))] := hD
  refine W.widen (k := 1) (n := 500) (by omega) (by omega) ?_
  refine va_putF (D := D) (ci := 3) (v := .ref q1) (ty := (.array .int)) (C := RX3) (T := TX3) (N := 2) hx hb hts in_X3_init_500_X3 tyX3 tyX3_ok nmX3 hown hK hP hD hS 0 rfl rfl 0 (by decide) (hts (.fieldLink RX3 15 "FastestRun$Row" "presses" "[I") (List.mem_of_getElem? (i := 9) rfl)) (fun _ h9 => h9) rfl hin rfl (by decide +kernel) rfl rfl (Nat.le_of_ble_eq_true rfl) dX3_init_12 (fun H locs hP hD hS => ?_)
  have hP : va_P D vwCl [(a_z, .inr (ob_X3 q1 0)), (q1, .inl (cI, 500, .inl (fun _ => 0)))] H := hP
  have hD : va_D A [(a_z, .inr (ob_X3 q1 0)), (q1, .inl (cI, 500, .inl (fun _ => 0)))] := hD
  exact W.vret hx hb hr (fun t ht hW => ⟨⟨[q1], rfl, trivial, by rw [ht]; exact hP, hD⟩, hS.F ht⟩) hS.2.2 dX3_init_15 hlocks
theorem in_X3_init_400_X3 : ∀ w ∈ wsX30, w ∈ wsX3_init := fun w h => List.mem_cons_of_mem _ (List.mem_append_right _ h)
set_option maxHeartbeats 8000000 in
set_option maxRecDepth 100000 in
theorem c_X3_init_400 {l : Launch} {D : va_G} {cI cJ cZ cR cN : ClassId} {a_z sz : Nat} : Met l yX3_init wsX3_init ({ frames := 1, cells := 1, slots := 400, locals := 21 } : Room) (fr_Pn D cI cJ cZ cR cN [.ref a_z, .int (400 : Int32)] [(a_z, .inr (oc_X3 .null (.int 0)))] sz) (fr_N D (fun u : List Nat => [(a_z, .inr (ob_X3 (u.getD 0 0) 0)), ((u.getD 0 0), .inl (cI, 400, .inl (fun _ => 0)))]) (va_A [(a_z, .inr (oc_X3 .null (.int 0)))] sz)) 1 400 (va_A [(a_z, .inr (oc_X3 .null (.int 0)))] sz) := by
  refine fr_ofW (cc := cX3_init) (maxL := 2) (ret := none) (by decide +kernel) rfl ?_
  intro p e s m args below meth c s₁ B hml hv
  obtain ⟨rfl, hsz, hP, hD0, hcx, hao⟩ := hv
  subst hsz
  have hx := B.exec
  have hb := B.bytes
  have hr := B.returns
  have hts := atoms_spec (ws := wsX3_init) B.pre
  have hown : s.vm.findClass RX3 = some m.cls := findClass_of_methodNamed B.named
  have hlocks := B.notSynchronized
  have hin : meth.name = "<init>" := (name_of_methodNamed B.named B.method).1
  have hK := hcx.1
  show W p l e ({ frames := 1, cells := 1, slots := 400, locals := 21 } : Room) s m _ below meth c s.heap [] 0 0 _ _
  have hD := hD0.self (sz := s.heap.size)
  generalize hAe : va_A [(a_z, .inr (oc_X3 .null (.int 0)))] s.heap.size = A at hD ⊢
  have hA : ∀ q : Nat, s.heap.size ≤ q → A q := fun q h => by rw [← hAe]; exact Or.inr h
  have hS : va_S A s.heap s.heap [] := va_S.rf
  have hl := lv_entry ([.ref a_z, .int (400 : Int32)]) (n := 2) (Nat.le_of_ble_eq_true rfl)
  rw [lg_entry_eq]
  generalize (lg_sl ([.ref a_z, .int (400 : Int32)]) ++ List.replicate (2 - (lg_sl ([.ref a_z, .int (400 : Int32)])).length) Slot.unset).toArray = ls at hl ⊢
  have hl : lv_has ls 2 [(0, .ref a_z), (1, .int (400 : Int32))] := hl
  refine lv_aload_n hx hb dX3_init_0 rfl (lv_at hl 0 rfl) ?_
  refine W.objInit hx hb hown (hts (.methodLink RX3 3 objectInit) (List.mem_of_getElem? (i := 1) rfl)) (hts (.instanceMethod objectInit) (List.mem_of_getElem? (i := 2) rfl)) (hts (.code objectInit ⟨#[0xb1]⟩ 1 none) (List.mem_of_getElem? (i := 3) rfl)) rfl (by rw [hml]; exact hl.1) rfl dX3_init_1 (Nat.le_of_ble_eq_true rfl) (Nat.le_of_ble_eq_true rfl) ?_
  refine W.eq (g2 := F0 m 4 ls []) rfl ?_
  refine lv_aload_n hx hb dX3_init_4 rfl (lv_at hl 0 rfl) ?_
  refine lv_iload_n hx hb dX3_init_5 rfl (lv_at hl 1 rfl) ?_
  refine lv_iconst (v := (0 : Int32)) hx hb dX3_init_6 (by decide) ?_
  refine va_mmax hx hb (hml.trans hl.1.symm) hown (hts (.methodLink RX3 9 Lib.Math.max.name) (List.mem_of_getElem? (i := 4) rfl)) (hts (.static Lib.Math.max.name) (List.mem_of_getElem? (i := 5) rfl)) (hts (.initialized "java/lang/Math") (List.mem_of_getElem? (i := 6) rfl)) (hts (.code Lib.Math.max.name Lib.Math.max.code 2 (some .int)) (List.mem_of_getElem? (i := 7) rfl)) (Nat.le_of_ble_eq_true rfl) (Nat.le_of_ble_eq_true rfl) (Nat.le_of_ble_eq_true rfl) (Nat.le_of_ble_eq_true rfl) dX3_init_7 ?_
  rw [show (if (400 : Int32) < (0 : Int32) then (0 : Int32) else (400 : Int32)) = (400 : Int32) from by decide]
  refine va_newa (atype := .int) (ty := .int) (N' := 400) (a0 := (400, .inl (fun _ => 0))) hx hb (hts (.arrayClass .int) (List.mem_of_getElem? (i := 8) rfl)) rfl hK hP hD hS hA (fr_aI 400) (by decide +kernel) (by decide +kernel) (by decide +kernel) (by decide +kernel) (by decide +kernel) dX3_init_10 (fun q1 cA H hKn hP hD hS => ?_)
  obtain rfl : cI = cA := Option.some.inj ((hK.2 0 _ rfl).2.symm.trans (hKn.2 5 _ rfl).2)
  have hP : va_P D vwCl [(a_z, .inr (oc_X3 .null (.int 0))), (q1, .inl (cI, 400, .inl (fun _ => 0)))] H := hP
  have hD : va_D A [(a_z, .inr (oc_X3 .null (.int 0))), (q1, .inl (cI, 400, .inl (fun _ => 0)))] := hD
  refine W.widen (k := 1) (n := 400) (by omega) (by omega) ?_
  refine va_putF (D := D) (ci := 3) (v := .ref q1) (ty := (.array .int)) (C := RX3) (T := TX3) (N := 2) hx hb hts in_X3_init_400_X3 tyX3 tyX3_ok nmX3 hown hK hP hD hS 0 rfl rfl 0 (by decide) (hts (.fieldLink RX3 15 "FastestRun$Row" "presses" "[I") (List.mem_of_getElem? (i := 9) rfl)) (fun _ h9 => h9) rfl hin rfl (by decide +kernel) rfl rfl (Nat.le_of_ble_eq_true rfl) dX3_init_12 (fun H locs hP hD hS => ?_)
  have hP : va_P D vwCl [(a_z, .inr (ob_X3 q1 0)), (q1, .inl (cI, 400, .inl (fun _ => 0)))] H := hP
  have hD : va_D A [(a_z, .inr (ob_X3 q1 0)), (q1, .inl (cI, 400, .inl (fun _ => 0)))] := hD
  exact W.vret hx hb hr (fun t ht hW => ⟨⟨[q1], rfl, trivial, by rw [ht]; exact hP, hD⟩, hS.F ht⟩) hS.2.2 dX3_init_15 hlocks
theorem in_X3_init_3072_X3 : ∀ w ∈ wsX30, w ∈ wsX3_init := fun w h => List.mem_cons_of_mem _ (List.mem_append_right _ h)
set_option maxHeartbeats 8000000 in
set_option maxRecDepth 100000 in
theorem c_X3_init_3072 {l : Launch} {D : va_G} {cI cJ cZ cR cN : ClassId} {a_z sz : Nat} : Met l yX3_init wsX3_init ({ frames := 1, cells := 1, slots := 3072, locals := 21 } : Room) (fr_Pn D cI cJ cZ cR cN [.ref a_z, .int (3072 : Int32)] [(a_z, .inr (oc_X3 .null (.int 0)))] sz) (fr_N D (fun u : List Nat => [(a_z, .inr (ob_X3 (u.getD 0 0) 0)), ((u.getD 0 0), .inl (cI, 3072, .inl (fun _ => 0)))]) (va_A [(a_z, .inr (oc_X3 .null (.int 0)))] sz)) 1 3072 (va_A [(a_z, .inr (oc_X3 .null (.int 0)))] sz) := by
  refine fr_ofW (cc := cX3_init) (maxL := 2) (ret := none) (by decide +kernel) rfl ?_
  intro p e s m args below meth c s₁ B hml hv
  obtain ⟨rfl, hsz, hP, hD0, hcx, hao⟩ := hv
  subst hsz
  have hx := B.exec
  have hb := B.bytes
  have hr := B.returns
  have hts := atoms_spec (ws := wsX3_init) B.pre
  have hown : s.vm.findClass RX3 = some m.cls := findClass_of_methodNamed B.named
  have hlocks := B.notSynchronized
  have hin : meth.name = "<init>" := (name_of_methodNamed B.named B.method).1
  have hK := hcx.1
  show W p l e ({ frames := 1, cells := 1, slots := 3072, locals := 21 } : Room) s m _ below meth c s.heap [] 0 0 _ _
  have hD := hD0.self (sz := s.heap.size)
  generalize hAe : va_A [(a_z, .inr (oc_X3 .null (.int 0)))] s.heap.size = A at hD ⊢
  have hA : ∀ q : Nat, s.heap.size ≤ q → A q := fun q h => by rw [← hAe]; exact Or.inr h
  have hS : va_S A s.heap s.heap [] := va_S.rf
  have hl := lv_entry ([.ref a_z, .int (3072 : Int32)]) (n := 2) (Nat.le_of_ble_eq_true rfl)
  rw [lg_entry_eq]
  generalize (lg_sl ([.ref a_z, .int (3072 : Int32)]) ++ List.replicate (2 - (lg_sl ([.ref a_z, .int (3072 : Int32)])).length) Slot.unset).toArray = ls at hl ⊢
  have hl : lv_has ls 2 [(0, .ref a_z), (1, .int (3072 : Int32))] := hl
  refine lv_aload_n hx hb dX3_init_0 rfl (lv_at hl 0 rfl) ?_
  refine W.objInit hx hb hown (hts (.methodLink RX3 3 objectInit) (List.mem_of_getElem? (i := 1) rfl)) (hts (.instanceMethod objectInit) (List.mem_of_getElem? (i := 2) rfl)) (hts (.code objectInit ⟨#[0xb1]⟩ 1 none) (List.mem_of_getElem? (i := 3) rfl)) rfl (by rw [hml]; exact hl.1) rfl dX3_init_1 (Nat.le_of_ble_eq_true rfl) (Nat.le_of_ble_eq_true rfl) ?_
  refine W.eq (g2 := F0 m 4 ls []) rfl ?_
  refine lv_aload_n hx hb dX3_init_4 rfl (lv_at hl 0 rfl) ?_
  refine lv_iload_n hx hb dX3_init_5 rfl (lv_at hl 1 rfl) ?_
  refine lv_iconst (v := (0 : Int32)) hx hb dX3_init_6 (by decide) ?_
  refine va_mmax hx hb (hml.trans hl.1.symm) hown (hts (.methodLink RX3 9 Lib.Math.max.name) (List.mem_of_getElem? (i := 4) rfl)) (hts (.static Lib.Math.max.name) (List.mem_of_getElem? (i := 5) rfl)) (hts (.initialized "java/lang/Math") (List.mem_of_getElem? (i := 6) rfl)) (hts (.code Lib.Math.max.name Lib.Math.max.code 2 (some .int)) (List.mem_of_getElem? (i := 7) rfl)) (Nat.le_of_ble_eq_true rfl) (Nat.le_of_ble_eq_true rfl) (Nat.le_of_ble_eq_true rfl) (Nat.le_of_ble_eq_true rfl) dX3_init_7 ?_
  rw [show (if (3072 : Int32) < (0 : Int32) then (0 : Int32) else (3072 : Int32)) = (3072 : Int32) from by decide]
  refine va_newa (atype := .int) (ty := .int) (N' := 3072) (a0 := (3072, .inl (fun _ => 0))) hx hb (hts (.arrayClass .int) (List.mem_of_getElem? (i := 8) rfl)) rfl hK hP hD hS hA (fr_aI 3072) (by decide +kernel) (by decide +kernel) (by decide +kernel) (by decide +kernel) (by decide +kernel) dX3_init_10 (fun q1 cA H hKn hP hD hS => ?_)
  obtain rfl : cI = cA := Option.some.inj ((hK.2 0 _ rfl).2.symm.trans (hKn.2 5 _ rfl).2)
  have hP : va_P D vwCl [(a_z, .inr (oc_X3 .null (.int 0))), (q1, .inl (cI, 3072, .inl (fun _ => 0)))] H := hP
  have hD : va_D A [(a_z, .inr (oc_X3 .null (.int 0))), (q1, .inl (cI, 3072, .inl (fun _ => 0)))] := hD
  refine W.widen (k := 1) (n := 3072) (by omega) (by omega) ?_
  refine va_putF (D := D) (ci := 3) (v := .ref q1) (ty := (.array .int)) (C := RX3) (T := TX3) (N := 2) hx hb hts in_X3_init_3072_X3 tyX3 tyX3_ok nmX3 hown hK hP hD hS 0 rfl rfl 0 (by decide) (hts (.fieldLink RX3 15 "FastestRun$Row" "presses" "[I") (List.mem_of_getElem? (i := 9) rfl)) (fun _ h9 => h9) rfl hin rfl (by decide +kernel) rfl rfl (Nat.le_of_ble_eq_true rfl) dX3_init_12 (fun H locs hP hD hS => ?_)
  have hP : va_P D vwCl [(a_z, .inr (ob_X3 q1 0)), (q1, .inl (cI, 3072, .inl (fun _ => 0)))] H := hP
  have hD : va_D A [(a_z, .inr (ob_X3 q1 0)), (q1, .inl (cI, 3072, .inl (fun _ => 0)))] := hD
  exact W.vret hx hb hr (fun t ht hW => ⟨⟨[q1], rfl, trivial, by rw [ht]; exact hP, hD⟩, hS.F ht⟩) hS.2.2 dX3_init_15 hlocks

set_option maxHeartbeats 8000000 in
set_option maxRecDepth 100000 in
theorem c_X1_init {l : Launch} {D : va_G} {cI cJ cZ cR cN : ClassId} {a_z sz : Nat} : Met l yX1_init wsX1_init ({ frames := 1, cells := 0, slots := 0, locals := 20 } : Room) (fr_Pn D cI cJ cZ cR cN [.ref a_z] [(a_z, .inr (ob_X1 0 0 0 0 0 0 0 0 0))] sz) (fr_N D (fun u : List Nat => [(a_z, .inr (ob_X1 0 0 0 0 0 0 0 0 0))]) (va_A [(a_z, .inr (ob_X1 0 0 0 0 0 0 0 0 0))] sz)) 0 0 (va_A [(a_z, .inr (ob_X1 0 0 0 0 0 0 0 0 0))] sz) := by
  refine fr_ofW (cc := cX1_init) (maxL := 1) (ret := none) (by decide +kernel) rfl ?_
  intro p e s m args below meth c s₁ B hml hv
  obtain ⟨rfl, hsz, hP, hD0, hcx, hao⟩ := hv
  subst hsz
  have hx := B.exec
  have hb := B.bytes
  have hr := B.returns
  have hts := atoms_spec (ws := wsX1_init) B.pre
  have hown : s.vm.findClass RX1 = some m.cls := findClass_of_methodNamed B.named
  have hlocks := B.notSynchronized
  have hin : meth.name = "<init>" := (name_of_methodNamed B.named B.method).1
  have hK := hcx.1
  show W p l e ({ frames := 1, cells := 0, slots := 0, locals := 20 } : Room) s m _ below meth c s.heap [] 0 0 _ _
  have hD := hD0.self (sz := s.heap.size)
  generalize hAe : va_A [(a_z, .inr (ob_X1 0 0 0 0 0 0 0 0 0))] s.heap.size = A at hD ⊢
  have hA : ∀ q : Nat, s.heap.size ≤ q → A q := fun q h => by rw [← hAe]; exact Or.inr h
  have hS : va_S A s.heap s.heap [] := va_S.rf
  have hl := lv_entry ([.ref a_z]) (n := 1) (Nat.le_of_ble_eq_true rfl)
  rw [lg_entry_eq]
  generalize (lg_sl ([.ref a_z]) ++ List.replicate (1 - (lg_sl ([.ref a_z])).length) Slot.unset).toArray = ls at hl ⊢
  have hl : lv_has ls 1 [(0, .ref a_z)] := hl
  refine lv_aload_n hx hb dX1_init_0 rfl (lv_at hl 0 rfl) ?_
  refine W.objInit hx hb hown (hts (.methodLink RX1 1 objectInit) (List.mem_of_getElem? (i := 1) rfl)) (hts (.instanceMethod objectInit) (List.mem_of_getElem? (i := 2) rfl)) (hts (.code objectInit ⟨#[0xb1]⟩ 1 none) (List.mem_of_getElem? (i := 3) rfl)) rfl (by rw [hml]; exact hl.1) rfl dX1_init_1 (Nat.le_of_ble_eq_true rfl) (Nat.le_of_ble_eq_true rfl) ?_
  refine W.eq (g2 := F0 m 4 ls []) rfl ?_
  exact W.vret hx hb hr (fun t ht hW => ⟨⟨[], rfl, trivial, by rw [ht]; exact hP, hD⟩, hS.F ht⟩) hS.2.2 dX1_init_4 hlocks
theorem in_X4_init_X3 : ∀ w ∈ wsX30, w ∈ wsX4_init := by decide +kernel
theorem in_X4_init_X4 : ∀ w ∈ wsX40, w ∈ wsX4_init := fun w h => List.mem_cons_of_mem _ (List.mem_append_right _ h)
set_option maxHeartbeats 8000000 in
set_option maxRecDepth 100000 in
theorem c_X4_init {l : Launch} {D : va_G} {cI cJ cZ cR cN : ClassId} {a_z sz : Nat} : Met l yX4_init wsX4_init ({ frames := 2, cells := 2, slots := 502, locals := 42 } : Room) (fr_Pn D cI cJ cZ cR cN [.ref a_z] [(a_z, .inr (oc_X4 .null (.int 0) (.int 0)))] sz) (fr_N D (fun u : List Nat => [(a_z, .inr (ob_X4 (u.getD 0 0) 0 0)), ((u.getD 0 0), .inr (ob_X3 (u.getD 1 0) 0)), ((u.getD 1 0), .inl (cI, 500, .inl (fun _ => 0)))]) (va_A [(a_z, .inr (oc_X4 .null (.int 0) (.int 0)))] sz)) 2 502 (va_A [(a_z, .inr (oc_X4 .null (.int 0) (.int 0)))] sz) := by
  refine fr_ofW (cc := cX4_init) (maxL := 1) (ret := none) (by decide +kernel) rfl ?_
  intro p e s m args below meth c s₁ B hml hv
  obtain ⟨rfl, hsz, hP, hD0, hcx, hao⟩ := hv
  subst hsz
  have hx := B.exec
  have hb := B.bytes
  have hr := B.returns
  have hts := atoms_spec (ws := wsX4_init) B.pre
  have hown : s.vm.findClass RX4 = some m.cls := findClass_of_methodNamed B.named
  have hlocks := B.notSynchronized
  have hin : meth.name = "<init>" := (name_of_methodNamed B.named B.method).1
  have hK := hcx.1
  show W p l e ({ frames := 2, cells := 2, slots := 502, locals := 42 } : Room) s m _ below meth c s.heap [] 0 0 _ _
  have hD := hD0.self (sz := s.heap.size)
  generalize hAe : va_A [(a_z, .inr (oc_X4 .null (.int 0) (.int 0)))] s.heap.size = A at hD ⊢
  have hA : ∀ q : Nat, s.heap.size ≤ q → A q := fun q h => by rw [← hAe]; exact Or.inr h
  have hS : va_S A s.heap s.heap [] := va_S.rf
  have hl := lv_entry ([.ref a_z]) (n := 1) (Nat.le_of_ble_eq_true rfl)
  rw [lg_entry_eq]
  generalize (lg_sl ([.ref a_z]) ++ List.replicate (1 - (lg_sl ([.ref a_z])).length) Slot.unset).toArray = ls at hl ⊢
  have hl : lv_has ls 1 [(0, .ref a_z)] := hl
  refine lv_aload_n hx hb dX4_init_0 rfl (lv_at hl 0 rfl) ?_
  refine W.objInit hx hb hown (hts (.methodLink RX4 3 objectInit) (List.mem_of_getElem? (i := 1) rfl)) (hts (.instanceMethod objectInit) (List.mem_of_getElem? (i := 2) rfl)) (hts (.code objectInit ⟨#[0xb1]⟩ 1 none) (List.mem_of_getElem? (i := 3) rfl)) rfl (by rw [hml]; exact hl.1) rfl dX4_init_1 (Nat.le_of_ble_eq_true rfl) (Nat.le_of_ble_eq_true rfl) ?_
  refine W.eq (g2 := F0 m 4 ls []) rfl ?_
  refine lv_aload_n hx hb dX4_init_4 rfl (lv_at hl 0 rfl) ?_
  refine va_new (ci := 3) (fs := [.null, .int 0]) (C := RX3) (T := TX3) (N := 2) hx hb hts in_X4_init_X3 tyX3 tyX3_ok hown (hts (.classLink RX4 9 RX3) (List.mem_of_getElem? (i := 4) rfl)) (hts (.instantiable RX3 2) (List.mem_of_getElem? (i := 5) rfl)) (hts (.initialized RX3) (List.mem_of_getElem? (i := 6) rfl)) hK hP hD hS hA rfl (fun j hj => by rcases (show j = 0 ∨ j = 1 by omega) with rfl | rfl <;> rfl) (by decide +kernel) (by decide +kernel) dX4_init_5 (fun q1 H hP hD hS => ?_)
  have hP : va_P D vwCl [(a_z, .inr (oc_X4 .null (.int 0) (.int 0))), (q1, .inr (oc_X3 .null (.int 0)))] H := hP
  have hD : va_D A [(a_z, .inr (oc_X4 .null (.int 0) (.int 0))), (q1, .inr (oc_X3 .null (.int 0)))] := hD
  refine W.widen (k := 1) (n := 2) (by omega) (by omega) ?_
  refine lv_dup hx hb dX4_init_8 rfl ?_
  refine lv_sipush (v := (500 : Int32)) hx hb dX4_init_9 (by decide) ?_
  have hPc : va_P D vwCl [(q1, .inr (oc_X3 .null (.int 0)))] H := fr_sub (ws' := [(q1, .inr (oc_X3 .null (.int 0)))]) hP [1] rfl
  have hDc : va_D A [(q1, .inr (oc_X3 .null (.int 0)))] := hD.sub (ws' := [(q1, .inr (oc_X3 .null (.int 0)))]) [1] (by decide) rfl
  have hFc := va_free (wc := [(q1, .inr (oc_X3 .null (.int 0)))]) hD hS hA [1] rfl
  refine fr_rwn (w1 := fun u2 => [(q1, .inr (ob_X3 (u2.getD 0 0) 0)), ((u2.getD 0 0), .inl (cI, 500, .inl (fun _ => 0)))]) (wc := [(q1, .inr (oc_X3 .null (.int 0)))]) (wr := [(a_z, .inr (oc_X4 .null (.int 0) (.int 0)))]) (ws2 := fun u2 => [(a_z, .inr (oc_X4 .null (.int 0) (.int 0))), (q1, .inr (ob_X3 (u2.getD 0 0) 0)), ((u2.getD 0 0), .inl (cI, 500, .inl (fun _ => 0)))]) (va_runI (As := [.int (500 : Int32)]) (rest := [.ref q1, .ref a_z]) ⟨hx, hb, hml, hown, hts⟩ (c_X3_init_500 (l := l) (D := D) (cI := cI) (cJ := cJ) (cZ := cZ) (cR := cR) (cN := cN) (a_z := q1) (sz := H.size)) (cwI 1 hts ggX4_init_X3_init rfl rfl rfl (hts (.initialized RX3) (List.mem_of_getElem? (i := 6) rfl)) (hts (.methodLink RX4 11 yX3_init) (List.mem_of_getElem? (i := 8) rfl)) (hts (.instanceMethod yX3_init) (List.mem_of_getElem? (i := 9) rfl)) rfl (by decide +kernel) ⟨Nat.le_of_ble_eq_true rfl, Nat.le_of_ble_eq_true rfl⟩) (fr_psn hcx hao hPc hDc) rfl rfl hl.1 rfl (lv_room (Nat.le_of_ble_eq_true rfl)) dX4_init_12 ⟨by decide +kernel, by decide +kernel⟩) hS hP hD hFc [1] [0] [0, 1, 2] rfl rfl (by decide) (by decide) (by decide) (fun _ => rfl) (fun u2 H locs hP hD hS => ?_)
  refine W.widen (k := 2) (n := 502) (by omega) (by omega) ?_
  refine va_putF (D := D) (ci := 4) (v := .ref q1) (ty := (.object "FastestRun$Row")) (C := RX4) (T := TX4) (N := 3) hx hb hts in_X4_init_X4 tyX4 tyX4_ok nmX4 hown hK hP hD hS 0 rfl rfl 0 (by decide) (hts (.fieldLink RX4 14 "FastestRun$Run" "presses" "LFastestRun$Row;") (List.mem_of_getElem? (i := 7) rfl)) (fun _ h9 => h9) rfl hin rfl (by decide +kernel) rfl rfl (Nat.le_of_ble_eq_true rfl) dX4_init_15 (fun H locs hP hD hS => ?_)
  have hP : va_P D vwCl [(a_z, .inr (ob_X4 q1 0 0)), (q1, .inr (ob_X3 (u2.getD 0 0) 0)), ((u2.getD 0 0), .inl (cI, 500, .inl (fun _ => 0)))] H := hP
  have hD : va_D A [(a_z, .inr (ob_X4 q1 0 0)), (q1, .inr (ob_X3 (u2.getD 0 0) 0)), ((u2.getD 0 0), .inl (cI, 500, .inl (fun _ => 0)))] := hD
  exact W.vret hx hb hr (fun t ht hW => ⟨⟨[q1, (u2.getD 0 0)], rfl, trivial, by rw [ht]; exact hP, hD⟩, hS.F ht⟩) hS.2.2 dX4_init_18 hlocks
theorem in_X0_init_X0 : ∀ w ∈ wsX00, w ∈ wsX0_init := fun w h => List.mem_cons_of_mem _ (List.mem_append_right _ h)
set_option maxHeartbeats 8000000 in
set_option maxRecDepth 100000 in
theorem c_X0_init {l : Launch} {D : va_G} {cI cJ cZ cR cN : ClassId} {a_z sz : Nat} {F : Nat} {o : Int64 × Int32 × Int32 × Int32 × Int32 × (Nat → Int32) × (Nat → Int64) × (Nat → Int64)} (hlay : m_X0_lay F (2 : Int32) (2 : Int32) 0 0 0 0 0 (fun _ => 0) (fun _ => 0) (fun _ => 0) = some o) : Met l yX0_init wsX0_init ({ frames := 3, cells := 4, slots := 81, locals := 67 } : Room) (fr_Pn D cI cJ cZ cR cN [.ref a_z] [(a_z, .inr (oc_X0 .null .null .null (.long 0) .null (.int 0) (.int 0) (.int 0) (.int 0)))] sz) (fr_N D (fun u : List Nat => [(a_z, .inr (ob_X0 (u.getD 0 0) (u.getD 1 0) (u.getD 2 0) o.1 (u.getD 3 0) o.2.1 o.2.2.1 o.2.2.2.1 o.2.2.2.2.1)), ((u.getD 0 0), .inl (cI, 64, .inl o.2.2.2.2.2.1)), ((u.getD 1 0), .inl (cJ, 8, .inr (.inl o.2.2.2.2.2.2.1))), ((u.getD 2 0), .inl (cJ, 3, .inr (.inl o.2.2.2.2.2.2.2))), ((u.getD 3 0), .inl (cI, 6, .inl (fun _ => 0)))]) (va_A [(a_z, .inr (oc_X0 .null .null .null (.long 0) .null (.int 0) (.int 0) (.int 0) (.int 0)))] sz)) 4 81 (va_A [(a_z, .inr (oc_X0 .null .null .null (.long 0) .null (.int 0) (.int 0) (.int 0) (.int 0)))] sz) := by
  refine fr_ofW (cc := cX0_init) (maxL := 1) (ret := none) (by decide +kernel) rfl ?_
  intro p e s m args below meth c s₁ B hml hv
  obtain ⟨rfl, hsz, hP, hD0, hcx, hao⟩ := hv
  subst hsz
  have hx := B.exec
  have hb := B.bytes
  have hr := B.returns
  have hts := atoms_spec (ws := wsX0_init) B.pre
  have hown : s.vm.findClass RX0 = some m.cls := findClass_of_methodNamed B.named
  have hlocks := B.notSynchronized
  have hin : meth.name = "<init>" := (name_of_methodNamed B.named B.method).1
  have hK := hcx.1
  show W p l e ({ frames := 3, cells := 4, slots := 81, locals := 67 } : Room) s m _ below meth c s.heap [] 0 0 _ _
  have hD := hD0.self (sz := s.heap.size)
  generalize hAe : va_A [(a_z, .inr (oc_X0 .null .null .null (.long 0) .null (.int 0) (.int 0) (.int 0) (.int 0)))] s.heap.size = A at hD ⊢
  have hA : ∀ q : Nat, s.heap.size ≤ q → A q := fun q h => by rw [← hAe]; exact Or.inr h
  have hS : va_S A s.heap s.heap [] := va_S.rf
  have hl := lv_entry ([.ref a_z]) (n := 1) (Nat.le_of_ble_eq_true rfl)
  rw [lg_entry_eq]
  generalize (lg_sl ([.ref a_z]) ++ List.replicate (1 - (lg_sl ([.ref a_z])).length) Slot.unset).toArray = ls at hl ⊢
  have hl : lv_has ls 1 [(0, .ref a_z)] := hl
  refine lv_aload_n hx hb dX0_init_0 rfl (lv_at hl 0 rfl) ?_
  refine W.objInit hx hb hown (hts (.methodLink RX0 5 objectInit) (List.mem_of_getElem? (i := 1) rfl)) (hts (.instanceMethod objectInit) (List.mem_of_getElem? (i := 2) rfl)) (hts (.code objectInit ⟨#[0xb1]⟩ 1 none) (List.mem_of_getElem? (i := 3) rfl)) rfl (by rw [hml]; exact hl.1) rfl dX0_init_1 (Nat.le_of_ble_eq_true rfl) (Nat.le_of_ble_eq_true rfl) ?_
  refine W.eq (g2 := F0 m 4 ls []) rfl ?_
  refine lv_aload_n hx hb dX0_init_4 rfl (lv_at hl 0 rfl) ?_
  refine lv_bipush (v := (64 : Int32)) hx hb dX0_init_5 (by decide) ?_
  refine va_newa (atype := .int) (ty := .int) (N' := 64) (a0 := (64, .inl (fun _ => 0))) hx hb (hts (.arrayClass .int) (List.mem_of_getElem? (i := 4) rfl)) rfl hK hP hD hS hA (fr_aI 64) (by decide +kernel) (by decide +kernel) (by decide +kernel) (by decide +kernel) (by decide +kernel) dX0_init_7 (fun q1 cA H hKn hP hD hS => ?_)
  obtain rfl : cI = cA := Option.some.inj ((hK.2 0 _ rfl).2.symm.trans (hKn.2 5 _ rfl).2)
  have hP : va_P D vwCl [(a_z, .inr (oc_X0 .null .null .null (.long 0) .null (.int 0) (.int 0) (.int 0) (.int 0))), (q1, .inl (cI, 64, .inl (fun _ => 0)))] H := hP
  have hD : va_D A [(a_z, .inr (oc_X0 .null .null .null (.long 0) .null (.int 0) (.int 0) (.int 0) (.int 0))), (q1, .inl (cI, 64, .inl (fun _ => 0)))] := hD
  refine W.widen (k := 1) (n := 64) (by omega) (by omega) ?_
  refine va_putF (D := D) (ci := 0) (v := .ref q1) (ty := (.array .int)) (C := RX0) (T := TX0) (N := 9) hx hb hts in_X0_init_X0 tyX0 tyX0_ok nmX0 hown hK hP hD hS 0 rfl rfl 0 (by decide) (hts (.fieldLink RX0 11 "FastestRun$Game" "kinds" "[I") (List.mem_of_getElem? (i := 5) rfl)) (fun _ h9 => h9) rfl hin rfl (by decide +kernel) rfl rfl (Nat.le_of_ble_eq_true rfl) dX0_init_9 (fun H locs hP hD hS => ?_)
  have hP : va_P D vwCl [(a_z, .inr (oc_X0 (.ref q1) .null .null (.long 0) .null (.int 0) (.int 0) (.int 0) (.int 0))), (q1, .inl (cI, 64, .inl (fun _ => 0)))] H := hP
  have hD : va_D A [(a_z, .inr (oc_X0 (.ref q1) .null .null (.long 0) .null (.int 0) (.int 0) (.int 0) (.int 0))), (q1, .inl (cI, 64, .inl (fun _ => 0)))] := hD
  refine lv_aload_n hx hb dX0_init_12 rfl (lv_at hl 0 rfl) ?_
  refine lv_bipush (v := (8 : Int32)) hx hb dX0_init_13 (by decide) ?_
  refine va_newa (atype := .long) (ty := .long) (N' := 8) (a0 := (8, .inr (.inl (fun _ => 0)))) hx hb (hts (.arrayClass .long) (List.mem_of_getElem? (i := 6) rfl)) rfl hK hP hD hS hA (fr_aJ 8) (by decide +kernel) (by decide +kernel) (by decide +kernel) (by decide +kernel) (by decide +kernel) dX0_init_15 (fun q2 cA H hKn hP hD hS => ?_)
  obtain rfl : cJ = cA := Option.some.inj ((hK.2 1 _ rfl).2.symm.trans (hKn.2 5 _ rfl).2)
  have hP : va_P D vwCl [(a_z, .inr (oc_X0 (.ref q1) .null .null (.long 0) .null (.int 0) (.int 0) (.int 0) (.int 0))), (q1, .inl (cI, 64, .inl (fun _ => 0))), (q2, .inl (cJ, 8, .inr (.inl (fun _ => 0))))] H := hP
  have hD : va_D A [(a_z, .inr (oc_X0 (.ref q1) .null .null (.long 0) .null (.int 0) (.int 0) (.int 0) (.int 0))), (q1, .inl (cI, 64, .inl (fun _ => 0))), (q2, .inl (cJ, 8, .inr (.inl (fun _ => 0))))] := hD
  refine W.widen (k := 2) (n := 72) (by omega) (by omega) ?_
  refine va_putF (D := D) (ci := 0) (v := .ref q2) (ty := (.array .long)) (C := RX0) (T := TX0) (N := 9) hx hb hts in_X0_init_X0 tyX0 tyX0_ok nmX0 hown hK hP hD hS 0 rfl rfl 1 (by decide) (hts (.fieldLink RX0 15 "FastestRun$Game" "openWith" "[J") (List.mem_of_getElem? (i := 7) rfl)) (fun _ h9 => h9) rfl hin rfl (by decide +kernel) rfl rfl (Nat.le_of_ble_eq_true rfl) dX0_init_17 (fun H locs hP hD hS => ?_)
  have hP : va_P D vwCl [(a_z, .inr (oc_X0 (.ref q1) (.ref q2) .null (.long 0) .null (.int 0) (.int 0) (.int 0) (.int 0))), (q1, .inl (cI, 64, .inl (fun _ => 0))), (q2, .inl (cJ, 8, .inr (.inl (fun _ => 0))))] H := hP
  have hD : va_D A [(a_z, .inr (oc_X0 (.ref q1) (.ref q2) .null (.long 0) .null (.int 0) (.int 0) (.int 0) (.int 0))), (q1, .inl (cI, 64, .inl (fun _ => 0))), (q2, .inl (cJ, 8, .inr (.inl (fun _ => 0))))] := hD
  refine lv_aload_n hx hb dX0_init_20 rfl (lv_at hl 0 rfl) ?_
  refine lv_iconst (v := (3 : Int32)) hx hb dX0_init_21 (by decide) ?_
  refine va_newa (atype := .long) (ty := .long) (N' := 3) (a0 := (3, .inr (.inl (fun _ => 0)))) hx hb (hts (.arrayClass .long) (List.mem_of_getElem? (i := 6) rfl)) rfl hK hP hD hS hA (fr_aJ 3) (by decide +kernel) (by decide +kernel) (by decide +kernel) (by decide +kernel) (by decide +kernel) dX0_init_22 (fun q3 cA H hKn hP hD hS => ?_)
  obtain rfl : cJ = cA := Option.some.inj ((hK.2 1 _ rfl).2.symm.trans (hKn.2 5 _ rfl).2)
  have hP : va_P D vwCl [(a_z, .inr (oc_X0 (.ref q1) (.ref q2) .null (.long 0) .null (.int 0) (.int 0) (.int 0) (.int 0))), (q1, .inl (cI, 64, .inl (fun _ => 0))), (q2, .inl (cJ, 8, .inr (.inl (fun _ => 0)))), (q3, .inl (cJ, 3, .inr (.inl (fun _ => 0))))] H := hP
  have hD : va_D A [(a_z, .inr (oc_X0 (.ref q1) (.ref q2) .null (.long 0) .null (.int 0) (.int 0) (.int 0) (.int 0))), (q1, .inl (cI, 64, .inl (fun _ => 0))), (q2, .inl (cJ, 8, .inr (.inl (fun _ => 0)))), (q3, .inl (cJ, 3, .inr (.inl (fun _ => 0))))] := hD
  refine W.widen (k := 3) (n := 75) (by omega) (by omega) ?_
  refine va_putF (D := D) (ci := 0) (v := .ref q3) (ty := (.array .long)) (C := RX0) (T := TX0) (N := 9) hx hb hts in_X0_init_X0 tyX0 tyX0_ok nmX0 hown hK hP hD hS 0 rfl rfl 2 (by decide) (hts (.fieldLink RX0 19 "FastestRun$Game" "keyCells" "[J") (List.mem_of_getElem? (i := 8) rfl)) (fun _ h9 => h9) rfl hin rfl (by decide +kernel) rfl rfl (Nat.le_of_ble_eq_true rfl) dX0_init_24 (fun H locs hP hD hS => ?_)
  have hP : va_P D vwCl [(a_z, .inr (oc_X0 (.ref q1) (.ref q2) (.ref q3) (.long 0) .null (.int 0) (.int 0) (.int 0) (.int 0))), (q1, .inl (cI, 64, .inl (fun _ => 0))), (q2, .inl (cJ, 8, .inr (.inl (fun _ => 0)))), (q3, .inl (cJ, 3, .inr (.inl (fun _ => 0))))] H := hP
  have hD : va_D A [(a_z, .inr (oc_X0 (.ref q1) (.ref q2) (.ref q3) (.long 0) .null (.int 0) (.int 0) (.int 0) (.int 0))), (q1, .inl (cI, 64, .inl (fun _ => 0))), (q2, .inl (cJ, 8, .inr (.inl (fun _ => 0)))), (q3, .inl (cJ, 3, .inr (.inl (fun _ => 0))))] := hD
  refine lv_aload_n hx hb dX0_init_27 rfl (lv_at hl 0 rfl) ?_
  refine lv_bipush (v := (6 : Int32)) hx hb dX0_init_28 (by decide) ?_
  refine va_newa (atype := .int) (ty := .int) (N' := 6) (a0 := (6, .inl (fun _ => 0))) hx hb (hts (.arrayClass .int) (List.mem_of_getElem? (i := 4) rfl)) rfl hK hP hD hS hA (fr_aI 6) (by decide +kernel) (by decide +kernel) (by decide +kernel) (by decide +kernel) (by decide +kernel) dX0_init_30 (fun q4 cA H hKn hP hD hS => ?_)
  obtain rfl : cI = cA := Option.some.inj ((hK.2 0 _ rfl).2.symm.trans (hKn.2 5 _ rfl).2)
  have hP : va_P D vwCl [(a_z, .inr (oc_X0 (.ref q1) (.ref q2) (.ref q3) (.long 0) .null (.int 0) (.int 0) (.int 0) (.int 0))), (q1, .inl (cI, 64, .inl (fun _ => 0))), (q2, .inl (cJ, 8, .inr (.inl (fun _ => 0)))), (q3, .inl (cJ, 3, .inr (.inl (fun _ => 0)))), (q4, .inl (cI, 6, .inl (fun _ => 0)))] H := hP
  have hD : va_D A [(a_z, .inr (oc_X0 (.ref q1) (.ref q2) (.ref q3) (.long 0) .null (.int 0) (.int 0) (.int 0) (.int 0))), (q1, .inl (cI, 64, .inl (fun _ => 0))), (q2, .inl (cJ, 8, .inr (.inl (fun _ => 0)))), (q3, .inl (cJ, 3, .inr (.inl (fun _ => 0)))), (q4, .inl (cI, 6, .inl (fun _ => 0)))] := hD
  refine W.widen (k := 4) (n := 81) (by omega) (by omega) ?_
  refine va_putF (D := D) (ci := 0) (v := .ref q4) (ty := (.array .int)) (C := RX0) (T := TX0) (N := 9) hx hb hts in_X0_init_X0 tyX0 tyX0_ok nmX0 hown hK hP hD hS 0 rfl rfl 4 (by decide) (hts (.fieldLink RX0 22 "FastestRun$Game" "round" "[I") (List.mem_of_getElem? (i := 9) rfl)) (fun _ h9 => h9) rfl hin rfl (by decide +kernel) rfl rfl (Nat.le_of_ble_eq_true rfl) dX0_init_32 (fun H locs hP hD hS => ?_)
  have hP : va_P D vwCl [(a_z, .inr (ob_X0 q1 q2 q3 0 q4 0 0 0 0)), (q1, .inl (cI, 64, .inl (fun _ => 0))), (q2, .inl (cJ, 8, .inr (.inl (fun _ => 0)))), (q3, .inl (cJ, 3, .inr (.inl (fun _ => 0)))), (q4, .inl (cI, 6, .inl (fun _ => 0)))] H := hP
  have hD : va_D A [(a_z, .inr (ob_X0 q1 q2 q3 0 q4 0 0 0 0)), (q1, .inl (cI, 64, .inl (fun _ => 0))), (q2, .inl (cJ, 8, .inr (.inl (fun _ => 0)))), (q3, .inl (cJ, 3, .inr (.inl (fun _ => 0)))), (q4, .inl (cI, 6, .inl (fun _ => 0)))] := hD
  refine lv_aload_n hx hb dX0_init_35 rfl (lv_at hl 0 rfl) ?_
  refine lv_iconst (v := (2 : Int32)) hx hb dX0_init_36 (by decide) ?_
  refine lv_iconst (v := (2 : Int32)) hx hb dX0_init_37 (by decide) ?_
  have hPc : va_P D vwCl [(a_z, .inr (ob_X0 q1 q2 q3 0 q4 0 0 0 0)), (q1, .inl (cI, 64, .inl (fun _ => 0))), (q2, .inl (cJ, 8, .inr (.inl (fun _ => 0)))), (q3, .inl (cJ, 3, .inr (.inl (fun _ => 0))))] H := fr_sub (ws' := [(a_z, .inr (ob_X0 q1 q2 q3 0 q4 0 0 0 0)), (q1, .inl (cI, 64, .inl (fun _ => 0))), (q2, .inl (cJ, 8, .inr (.inl (fun _ => 0)))), (q3, .inl (cJ, 3, .inr (.inl (fun _ => 0))))]) hP [0, 1, 2, 3] rfl
  have hDc : va_D A [(a_z, .inr (ob_X0 q1 q2 q3 0 q4 0 0 0 0)), (q1, .inl (cI, 64, .inl (fun _ => 0))), (q2, .inl (cJ, 8, .inr (.inl (fun _ => 0)))), (q3, .inl (cJ, 3, .inr (.inl (fun _ => 0))))] := hD.sub (ws' := [(a_z, .inr (ob_X0 q1 q2 q3 0 q4 0 0 0 0)), (q1, .inl (cI, 64, .inl (fun _ => 0))), (q2, .inl (cJ, 8, .inr (.inl (fun _ => 0)))), (q3, .inl (cJ, 3, .inr (.inl (fun _ => 0))))]) [0, 1, 2, 3] (by decide) rfl
  have hFc := va_free (wc := [(a_z, .inr (ob_X0 q1 q2 q3 0 q4 0 0 0 0)), (q1, .inl (cI, 64, .inl (fun _ => 0))), (q2, .inl (cJ, 8, .inr (.inl (fun _ => 0)))), (q3, .inl (cJ, 3, .inr (.inl (fun _ => 0))))]) hD hS hA [0, 1, 2, 3] rfl
  refine fr_rwv (w1 := [(a_z, .inr (ob_X0 q1 q2 q3 o.1 q4 o.2.1 o.2.2.1 o.2.2.2.1 o.2.2.2.2.1)), (q1, .inl (cI, 64, .inl o.2.2.2.2.2.1)), (q2, .inl (cJ, 8, .inr (.inl o.2.2.2.2.2.2.1))), (q3, .inl (cJ, 3, .inr (.inl o.2.2.2.2.2.2.2)))]) (wc := [(a_z, .inr (ob_X0 q1 q2 q3 0 q4 0 0 0 0)), (q1, .inl (cI, 64, .inl (fun _ => 0))), (q2, .inl (cJ, 8, .inr (.inl (fun _ => 0)))), (q3, .inl (cJ, 3, .inr (.inl (fun _ => 0))))]) (wr := [(q4, .inl (cI, 6, .inl (fun _ => 0)))]) (ws2 := [(a_z, .inr (ob_X0 q1 q2 q3 o.1 q4 o.2.1 o.2.2.1 o.2.2.2.1 o.2.2.2.2.1)), (q1, .inl (cI, 64, .inl o.2.2.2.2.2.1)), (q2, .inl (cJ, 8, .inr (.inl o.2.2.2.2.2.2.1))), (q3, .inl (cJ, 3, .inr (.inl o.2.2.2.2.2.2.2))), (q4, .inl (cI, 6, .inl (fun _ => 0)))]) (va_runV (As := [.int (2 : Int32), .int (2 : Int32)]) (rest := []) ⟨hx, hb, hml, hown, hts⟩ (c_X0_lay (l := l) (D := D) (cI := cI) (cJ := cJ) (cZ := cZ) (cR := cR) (cN := cN) (x1 := (2 : Int32)) (x2 := (2 : Int32)) (z_goalCells' := o.1) (z_width' := o.2.1) (z_height' := o.2.2.1) (z_roundLength' := o.2.2.2.1) (z_startCell' := o.2.2.2.2.1) (z_kinds' := o.2.2.2.2.2.1) (z_openWith' := o.2.2.2.2.2.2.1) (z_keyCells' := o.2.2.2.2.2.2.2) hlay (sz := H.size)) (cwV 2 hts gX0_init_X0_lay rfl rfl rfl (by decide +kernel) ⟨Nat.le_of_ble_eq_true rfl, Nat.le_of_ble_eq_true rfl⟩) (fr_pvw hcx hPc hDc (va_recv hK hP (ci := 0) (q0 := 0) rfl rfl)) rfl rfl hl.1 rfl (lv_room (Nat.le_of_ble_eq_true rfl)) dX0_init_38 ⟨by decide +kernel, by decide +kernel⟩) hS hP hD hFc [0, 1, 2, 3] [4] [1, 2, 3, 4, 0] rfl rfl (by decide) (by decide) (by decide) rfl (fun H locs hP hD hS => ?_)
  exact W.vret hx hb hr (fun t ht hW => ⟨⟨[q1, q2, q3, q4], rfl, trivial, by rw [ht]; exact hP, hD⟩, hS.F ht⟩) hS.2.2 dX0_init_41 hlocks
theorem in_X5_init_X3 : ∀ w ∈ wsX30, w ∈ wsX5_init := fun w h => List.mem_cons_of_mem _ (List.mem_append_right _ h)
theorem in_X5_init_X5 : ∀ w ∈ wsX50, w ∈ wsX5_init := by decide +kernel
set_option maxHeartbeats 8000000 in
set_option maxRecDepth 100000 in
theorem c_X5_init {l : Launch} {D : va_G} {cI cJ cZ cR cN : ClassId} {a_z sz : Nat} : Met l yX5_init wsX5_init ({ frames := 2, cells := 5, slots := 12290, locals := 42 } : Room) (fr_Pn D cI cJ cZ cR cN [.ref a_z] [(a_z, .inr (oc_X5 .null .null .null .null (.int 0)))] sz) (fr_N D (fun u : List Nat => [(a_z, .inr (ob_X5 (u.getD 0 0) (u.getD 1 0) (u.getD 2 0) (u.getD 3 0) 0)), ((u.getD 0 0), .inl (cI, 3072, .inl (fun _ => 0))), ((u.getD 1 0), .inl (cI, 3072, .inl (fun _ => 0))), ((u.getD 2 0), .inl (cI, 3072, .inl (fun _ => 0))), ((u.getD 3 0), .inr (ob_X3 (u.getD 4 0) 0)), ((u.getD 4 0), .inl (cI, 3072, .inl (fun _ => 0)))]) (va_A [(a_z, .inr (oc_X5 .null .null .null .null (.int 0)))] sz)) 5 12290 (va_A [(a_z, .inr (oc_X5 .null .null .null .null (.int 0)))] sz) := by
  refine fr_ofW (cc := cX5_init) (maxL := 1) (ret := none) (by decide +kernel) rfl ?_
  intro p e s m args below meth c s₁ B hml hv
  obtain ⟨rfl, hsz, hP, hD0, hcx, hao⟩ := hv
  subst hsz
  have hx := B.exec
  have hb := B.bytes
  have hr := B.returns
  have hts := atoms_spec (ws := wsX5_init) B.pre
  have hown : s.vm.findClass RX5 = some m.cls := findClass_of_methodNamed B.named
  have hlocks := B.notSynchronized
  have hin : meth.name = "<init>" := (name_of_methodNamed B.named B.method).1
  have hK := hcx.1
  show W p l e ({ frames := 2, cells := 5, slots := 12290, locals := 42 } : Room) s m _ below meth c s.heap [] 0 0 _ _
  have hD := hD0.self (sz := s.heap.size)
  generalize hAe : va_A [(a_z, .inr (oc_X5 .null .null .null .null (.int 0)))] s.heap.size = A at hD ⊢
  have hA : ∀ q : Nat, s.heap.size ≤ q → A q := fun q h => by rw [← hAe]; exact Or.inr h
  have hS : va_S A s.heap s.heap [] := va_S.rf
  have hl := lv_entry ([.ref a_z]) (n := 1) (Nat.le_of_ble_eq_true rfl)
  rw [lg_entry_eq]
  generalize (lg_sl ([.ref a_z]) ++ List.replicate (1 - (lg_sl ([.ref a_z])).length) Slot.unset).toArray = ls at hl ⊢
  have hl : lv_has ls 1 [(0, .ref a_z)] := hl
  refine lv_aload_n hx hb dX5_init_0 rfl (lv_at hl 0 rfl) ?_
  refine W.objInit hx hb hown (hts (.methodLink RX5 5 objectInit) (List.mem_of_getElem? (i := 1) rfl)) (hts (.instanceMethod objectInit) (List.mem_of_getElem? (i := 2) rfl)) (hts (.code objectInit ⟨#[0xb1]⟩ 1 none) (List.mem_of_getElem? (i := 3) rfl)) rfl (by rw [hml]; exact hl.1) rfl dX5_init_1 (Nat.le_of_ble_eq_true rfl) (Nat.le_of_ble_eq_true rfl) ?_
  refine W.eq (g2 := F0 m 4 ls []) rfl ?_
  refine lv_aload_n hx hb dX5_init_4 rfl (lv_at hl 0 rfl) ?_
  refine lv_sipush (v := (3072 : Int32)) hx hb dX5_init_5 (by decide) ?_
  refine va_newa (atype := .int) (ty := .int) (N' := 3072) (a0 := (3072, .inl (fun _ => 0))) hx hb (hts (.arrayClass .int) (List.mem_of_getElem? (i := 4) rfl)) rfl hK hP hD hS hA (fr_aI 3072) (by decide +kernel) (by decide +kernel) (by decide +kernel) (by decide +kernel) (by decide +kernel) dX5_init_8 (fun q1 cA H hKn hP hD hS => ?_)
  obtain rfl : cI = cA := Option.some.inj ((hK.2 0 _ rfl).2.symm.trans (hKn.2 5 _ rfl).2)
  have hP : va_P D vwCl [(a_z, .inr (oc_X5 .null .null .null .null (.int 0))), (q1, .inl (cI, 3072, .inl (fun _ => 0)))] H := hP
  have hD : va_D A [(a_z, .inr (oc_X5 .null .null .null .null (.int 0))), (q1, .inl (cI, 3072, .inl (fun _ => 0)))] := hD
  refine W.widen (k := 1) (n := 3072) (by omega) (by omega) ?_
  refine va_putF (D := D) (ci := 5) (v := .ref q1) (ty := (.array .int)) (C := RX5) (T := TX5) (N := 5) hx hb hts in_X5_init_X5 tyX5 tyX5_ok nmX5 hown hK hP hD hS 0 rfl rfl 0 (by decide) (hts (.fieldLink RX5 13 "FastestRun$Search" "queue" "[I") (List.mem_of_getElem? (i := 5) rfl)) (fun _ h9 => h9) rfl hin rfl (by decide +kernel) rfl rfl (Nat.le_of_ble_eq_true rfl) dX5_init_10 (fun H locs hP hD hS => ?_)
  have hP : va_P D vwCl [(a_z, .inr (oc_X5 (.ref q1) .null .null .null (.int 0))), (q1, .inl (cI, 3072, .inl (fun _ => 0)))] H := hP
  have hD : va_D A [(a_z, .inr (oc_X5 (.ref q1) .null .null .null (.int 0))), (q1, .inl (cI, 3072, .inl (fun _ => 0)))] := hD
  refine lv_aload_n hx hb dX5_init_13 rfl (lv_at hl 0 rfl) ?_
  refine lv_sipush (v := (3072 : Int32)) hx hb dX5_init_14 (by decide) ?_
  refine va_newa (atype := .int) (ty := .int) (N' := 3072) (a0 := (3072, .inl (fun _ => 0))) hx hb (hts (.arrayClass .int) (List.mem_of_getElem? (i := 4) rfl)) rfl hK hP hD hS hA (fr_aI 3072) (by decide +kernel) (by decide +kernel) (by decide +kernel) (by decide +kernel) (by decide +kernel) dX5_init_17 (fun q2 cA H hKn hP hD hS => ?_)
  obtain rfl : cI = cA := Option.some.inj ((hK.2 0 _ rfl).2.symm.trans (hKn.2 5 _ rfl).2)
  have hP : va_P D vwCl [(a_z, .inr (oc_X5 (.ref q1) .null .null .null (.int 0))), (q1, .inl (cI, 3072, .inl (fun _ => 0))), (q2, .inl (cI, 3072, .inl (fun _ => 0)))] H := hP
  have hD : va_D A [(a_z, .inr (oc_X5 (.ref q1) .null .null .null (.int 0))), (q1, .inl (cI, 3072, .inl (fun _ => 0))), (q2, .inl (cI, 3072, .inl (fun _ => 0)))] := hD
  refine W.widen (k := 2) (n := 6144) (by omega) (by omega) ?_
  refine va_putF (D := D) (ci := 5) (v := .ref q2) (ty := (.array .int)) (C := RX5) (T := TX5) (N := 5) hx hb hts in_X5_init_X5 tyX5 tyX5_ok nmX5 hown hK hP hD hS 0 rfl rfl 1 (by decide) (hts (.fieldLink RX5 17 "FastestRun$Search" "cameFrom" "[I") (List.mem_of_getElem? (i := 6) rfl)) (fun _ h9 => h9) rfl hin rfl (by decide +kernel) rfl rfl (Nat.le_of_ble_eq_true rfl) dX5_init_19 (fun H locs hP hD hS => ?_)
  have hP : va_P D vwCl [(a_z, .inr (oc_X5 (.ref q1) (.ref q2) .null .null (.int 0))), (q1, .inl (cI, 3072, .inl (fun _ => 0))), (q2, .inl (cI, 3072, .inl (fun _ => 0)))] H := hP
  have hD : va_D A [(a_z, .inr (oc_X5 (.ref q1) (.ref q2) .null .null (.int 0))), (q1, .inl (cI, 3072, .inl (fun _ => 0))), (q2, .inl (cI, 3072, .inl (fun _ => 0)))] := hD
  refine lv_aload_n hx hb dX5_init_22 rfl (lv_at hl 0 rfl) ?_
  refine lv_sipush (v := (3072 : Int32)) hx hb dX5_init_23 (by decide) ?_
  refine va_newa (atype := .int) (ty := .int) (N' := 3072) (a0 := (3072, .inl (fun _ => 0))) hx hb (hts (.arrayClass .int) (List.mem_of_getElem? (i := 4) rfl)) rfl hK hP hD hS hA (fr_aI 3072) (by decide +kernel) (by decide +kernel) (by decide +kernel) (by decide +kernel) (by decide +kernel) dX5_init_26 (fun q3 cA H hKn hP hD hS => ?_)
  obtain rfl : cI = cA := Option.some.inj ((hK.2 0 _ rfl).2.symm.trans (hKn.2 5 _ rfl).2)
  have hP : va_P D vwCl [(a_z, .inr (oc_X5 (.ref q1) (.ref q2) .null .null (.int 0))), (q1, .inl (cI, 3072, .inl (fun _ => 0))), (q2, .inl (cI, 3072, .inl (fun _ => 0))), (q3, .inl (cI, 3072, .inl (fun _ => 0)))] H := hP
  have hD : va_D A [(a_z, .inr (oc_X5 (.ref q1) (.ref q2) .null .null (.int 0))), (q1, .inl (cI, 3072, .inl (fun _ => 0))), (q2, .inl (cI, 3072, .inl (fun _ => 0))), (q3, .inl (cI, 3072, .inl (fun _ => 0)))] := hD
  refine W.widen (k := 3) (n := 9216) (by omega) (by omega) ?_
  refine va_putF (D := D) (ci := 5) (v := .ref q3) (ty := (.array .int)) (C := RX5) (T := TX5) (N := 5) hx hb hts in_X5_init_X5 tyX5 tyX5_ok nmX5 hown hK hP hD hS 0 rfl rfl 2 (by decide) (hts (.fieldLink RX5 20 "FastestRun$Search" "pressed" "[I") (List.mem_of_getElem? (i := 7) rfl)) (fun _ h9 => h9) rfl hin rfl (by decide +kernel) rfl rfl (Nat.le_of_ble_eq_true rfl) dX5_init_28 (fun H locs hP hD hS => ?_)
  have hP : va_P D vwCl [(a_z, .inr (oc_X5 (.ref q1) (.ref q2) (.ref q3) .null (.int 0))), (q1, .inl (cI, 3072, .inl (fun _ => 0))), (q2, .inl (cI, 3072, .inl (fun _ => 0))), (q3, .inl (cI, 3072, .inl (fun _ => 0)))] H := hP
  have hD : va_D A [(a_z, .inr (oc_X5 (.ref q1) (.ref q2) (.ref q3) .null (.int 0))), (q1, .inl (cI, 3072, .inl (fun _ => 0))), (q2, .inl (cI, 3072, .inl (fun _ => 0))), (q3, .inl (cI, 3072, .inl (fun _ => 0)))] := hD
  refine lv_aload_n hx hb dX5_init_31 rfl (lv_at hl 0 rfl) ?_
  refine va_new (ci := 3) (fs := [.null, .int 0]) (C := RX3) (T := TX3) (N := 2) hx hb hts in_X5_init_X3 tyX3 tyX3_ok hown (hts (.classLink RX5 23 RX3) (List.mem_of_getElem? (i := 8) rfl)) (hts (.instantiable RX3 2) (List.mem_of_getElem? (i := 9) rfl)) (hts (.initialized RX3) (List.mem_of_getElem? (i := 10) rfl)) hK hP hD hS hA rfl (fun j hj => by rcases (show j = 0 ∨ j = 1 by omega) with rfl | rfl <;> rfl) (by decide +kernel) (by decide +kernel) dX5_init_32 (fun q4 H hP hD hS => ?_)
  have hP : va_P D vwCl [(a_z, .inr (oc_X5 (.ref q1) (.ref q2) (.ref q3) .null (.int 0))), (q1, .inl (cI, 3072, .inl (fun _ => 0))), (q2, .inl (cI, 3072, .inl (fun _ => 0))), (q3, .inl (cI, 3072, .inl (fun _ => 0))), (q4, .inr (oc_X3 .null (.int 0)))] H := hP
  have hD : va_D A [(a_z, .inr (oc_X5 (.ref q1) (.ref q2) (.ref q3) .null (.int 0))), (q1, .inl (cI, 3072, .inl (fun _ => 0))), (q2, .inl (cI, 3072, .inl (fun _ => 0))), (q3, .inl (cI, 3072, .inl (fun _ => 0))), (q4, .inr (oc_X3 .null (.int 0)))] := hD
  refine W.widen (k := 4) (n := 9218) (by omega) (by omega) ?_
  refine lv_dup hx hb dX5_init_35 rfl ?_
  refine lv_sipush (v := (3072 : Int32)) hx hb dX5_init_36 (by decide) ?_
  have hPc : va_P D vwCl [(q4, .inr (oc_X3 .null (.int 0)))] H := fr_sub (ws' := [(q4, .inr (oc_X3 .null (.int 0)))]) hP [4] rfl
  have hDc : va_D A [(q4, .inr (oc_X3 .null (.int 0)))] := hD.sub (ws' := [(q4, .inr (oc_X3 .null (.int 0)))]) [4] (by decide) rfl
  have hFc := va_free (wc := [(q4, .inr (oc_X3 .null (.int 0)))]) hD hS hA [4] rfl
  refine fr_rwn (w1 := fun u5 => [(q4, .inr (ob_X3 (u5.getD 0 0) 0)), ((u5.getD 0 0), .inl (cI, 3072, .inl (fun _ => 0)))]) (wc := [(q4, .inr (oc_X3 .null (.int 0)))]) (wr := [(a_z, .inr (oc_X5 (.ref q1) (.ref q2) (.ref q3) .null (.int 0))), (q1, .inl (cI, 3072, .inl (fun _ => 0))), (q2, .inl (cI, 3072, .inl (fun _ => 0))), (q3, .inl (cI, 3072, .inl (fun _ => 0)))]) (ws2 := fun u5 => [(a_z, .inr (oc_X5 (.ref q1) (.ref q2) (.ref q3) .null (.int 0))), (q1, .inl (cI, 3072, .inl (fun _ => 0))), (q2, .inl (cI, 3072, .inl (fun _ => 0))), (q3, .inl (cI, 3072, .inl (fun _ => 0))), (q4, .inr (ob_X3 (u5.getD 0 0) 0)), ((u5.getD 0 0), .inl (cI, 3072, .inl (fun _ => 0)))]) (va_runI (As := [.int (3072 : Int32)]) (rest := [.ref q4, .ref a_z]) ⟨hx, hb, hml, hown, hts⟩ (c_X3_init_3072 (l := l) (D := D) (cI := cI) (cJ := cJ) (cZ := cZ) (cR := cR) (cN := cN) (a_z := q4) (sz := H.size)) (cwI 1 hts ggX5_init_X3_init rfl rfl rfl (hts (.initialized RX3) (List.mem_of_getElem? (i := 10) rfl)) (hts (.methodLink RX5 25 yX3_init) (List.mem_of_getElem? (i := 12) rfl)) (hts (.instanceMethod yX3_init) (List.mem_of_getElem? (i := 13) rfl)) rfl (by decide +kernel) ⟨Nat.le_of_ble_eq_true rfl, Nat.le_of_ble_eq_true rfl⟩) (fr_psn hcx hao hPc hDc) rfl rfl hl.1 rfl (lv_room (Nat.le_of_ble_eq_true rfl)) dX5_init_39 ⟨by decide +kernel, by decide +kernel⟩) hS hP hD hFc [4] [0, 1, 2, 3] [0, 1, 2, 3, 4, 5] rfl rfl (by decide) (by decide) (by decide) (fun _ => rfl) (fun u5 H locs hP hD hS => ?_)
  refine W.widen (k := 5) (n := 12290) (by omega) (by omega) ?_
  refine va_putF (D := D) (ci := 5) (v := .ref q4) (ty := (.object "FastestRun$Row")) (C := RX5) (T := TX5) (N := 5) hx hb hts in_X5_init_X5 tyX5 tyX5_ok nmX5 hown hK hP hD hS 0 rfl rfl 3 (by decide) (hts (.fieldLink RX5 28 "FastestRun$Search" "row" "LFastestRun$Row;") (List.mem_of_getElem? (i := 11) rfl)) (fun _ h9 => h9) rfl hin rfl (by decide +kernel) rfl rfl (Nat.le_of_ble_eq_true rfl) dX5_init_42 (fun H locs hP hD hS => ?_)
  have hP : va_P D vwCl [(a_z, .inr (ob_X5 q1 q2 q3 q4 0)), (q1, .inl (cI, 3072, .inl (fun _ => 0))), (q2, .inl (cI, 3072, .inl (fun _ => 0))), (q3, .inl (cI, 3072, .inl (fun _ => 0))), (q4, .inr (ob_X3 (u5.getD 0 0) 0)), ((u5.getD 0 0), .inl (cI, 3072, .inl (fun _ => 0)))] H := hP
  have hD : va_D A [(a_z, .inr (ob_X5 q1 q2 q3 q4 0)), (q1, .inl (cI, 3072, .inl (fun _ => 0))), (q2, .inl (cI, 3072, .inl (fun _ => 0))), (q3, .inl (cI, 3072, .inl (fun _ => 0))), (q4, .inr (ob_X3 (u5.getD 0 0) 0)), ((u5.getD 0 0), .inl (cI, 3072, .inl (fun _ => 0)))] := hD
  exact W.vret hx hb hr (fun t ht hW => ⟨⟨[q1, q2, q3, q4, (u5.getD 0 0)], rfl, trivial, by rw [ht]; exact hP, hD⟩, hS.F ht⟩) hS.2.2 dX5_init_45 hlocks
theorem in_X6_init_X6 : ∀ w ∈ wsX60, w ∈ wsX6_init := fun w h => List.mem_cons_of_mem _ (List.mem_append_right _ h)
set_option maxHeartbeats 8000000 in
set_option maxRecDepth 100000 in
theorem c_X6_init {l : Launch} {D : va_G} {cI cJ cZ cR cN : ClassId} {a_z sz : Nat} : Met l yX6_init wsX6_init ({ frames := 1, cells := 5, slots := 111, locals := 20 } : Room) (fr_Pn D cI cJ cZ cR cN [.ref a_z] [(a_z, .inr (oc_X6 .null .null .null (.int 0) .null .null))] sz) (fr_N D (fun u : List Nat => [(a_z, .inr (ob_X6 (u.getD 0 0) (u.getD 1 0) (u.getD 2 0) 0 (u.getD 3 0) (u.getD 4 0))), ((u.getD 0 0), .inl (cI, 5, .inl (fun _ => 0))), ((u.getD 1 0), .inl (cI, 5, .inl (fun _ => 0))), ((u.getD 2 0), .inl (cI, 5, .inl (fun _ => 0))), ((u.getD 3 0), .inl (cJ, 48, .inr (.inl (fun _ => 0)))), ((u.getD 4 0), .inl (cJ, 48, .inr (.inl (fun _ => 0))))]) (va_A [(a_z, .inr (oc_X6 .null .null .null (.int 0) .null .null))] sz)) 5 111 (va_A [(a_z, .inr (oc_X6 .null .null .null (.int 0) .null .null))] sz) := by
  refine fr_ofW (cc := cX6_init) (maxL := 1) (ret := none) (by decide +kernel) rfl ?_
  intro p e s m args below meth c s₁ B hml hv
  obtain ⟨rfl, hsz, hP, hD0, hcx, hao⟩ := hv
  subst hsz
  have hx := B.exec
  have hb := B.bytes
  have hr := B.returns
  have hts := atoms_spec (ws := wsX6_init) B.pre
  have hown : s.vm.findClass RX6 = some m.cls := findClass_of_methodNamed B.named
  have hlocks := B.notSynchronized
  have hin : meth.name = "<init>" := (name_of_methodNamed B.named B.method).1
  have hK := hcx.1
  show W p l e ({ frames := 1, cells := 5, slots := 111, locals := 20 } : Room) s m _ below meth c s.heap [] 0 0 _ _
  have hD := hD0.self (sz := s.heap.size)
  generalize hAe : va_A [(a_z, .inr (oc_X6 .null .null .null (.int 0) .null .null))] s.heap.size = A at hD ⊢
  have hA : ∀ q : Nat, s.heap.size ≤ q → A q := fun q h => by rw [← hAe]; exact Or.inr h
  have hS : va_S A s.heap s.heap [] := va_S.rf
  have hl := lv_entry ([.ref a_z]) (n := 1) (Nat.le_of_ble_eq_true rfl)
  rw [lg_entry_eq]
  generalize (lg_sl ([.ref a_z]) ++ List.replicate (1 - (lg_sl ([.ref a_z])).length) Slot.unset).toArray = ls at hl ⊢
  have hl : lv_has ls 1 [(0, .ref a_z)] := hl
  refine lv_aload_n hx hb dX6_init_0 rfl (lv_at hl 0 rfl) ?_
  refine W.objInit hx hb hown (hts (.methodLink RX6 1 objectInit) (List.mem_of_getElem? (i := 1) rfl)) (hts (.instanceMethod objectInit) (List.mem_of_getElem? (i := 2) rfl)) (hts (.code objectInit ⟨#[0xb1]⟩ 1 none) (List.mem_of_getElem? (i := 3) rfl)) rfl (by rw [hml]; exact hl.1) rfl dX6_init_1 (Nat.le_of_ble_eq_true rfl) (Nat.le_of_ble_eq_true rfl) ?_
  refine W.eq (g2 := F0 m 4 ls []) rfl ?_
  refine lv_aload_n hx hb dX6_init_4 rfl (lv_at hl 0 rfl) ?_
  refine lv_iconst (v := (5 : Int32)) hx hb dX6_init_5 (by decide) ?_
  refine va_newa (atype := .int) (ty := .int) (N' := 5) (a0 := (5, .inl (fun _ => 0))) hx hb (hts (.arrayClass .int) (List.mem_of_getElem? (i := 4) rfl)) rfl hK hP hD hS hA (fr_aI 5) (by decide +kernel) (by decide +kernel) (by decide +kernel) (by decide +kernel) (by decide +kernel) dX6_init_6 (fun q1 cA H hKn hP hD hS => ?_)
  obtain rfl : cI = cA := Option.some.inj ((hK.2 0 _ rfl).2.symm.trans (hKn.2 5 _ rfl).2)
  have hP : va_P D vwCl [(a_z, .inr (oc_X6 .null .null .null (.int 0) .null .null)), (q1, .inl (cI, 5, .inl (fun _ => 0)))] H := hP
  have hD : va_D A [(a_z, .inr (oc_X6 .null .null .null (.int 0) .null .null)), (q1, .inl (cI, 5, .inl (fun _ => 0)))] := hD
  refine W.widen (k := 1) (n := 5) (by omega) (by omega) ?_
  refine va_putF (D := D) (ci := 6) (v := .ref q1) (ty := (.array .int)) (C := RX6) (T := TX6) (N := 6) hx hb hts in_X6_init_X6 tyX6 tyX6_ok nmX6 hown hK hP hD hS 0 rfl rfl 0 (by decide) (hts (.fieldLink RX6 9 "FastestRun$Splits" "cells" "[I") (List.mem_of_getElem? (i := 5) rfl)) (fun _ h9 => h9) rfl hin rfl (by decide +kernel) rfl rfl (Nat.le_of_ble_eq_true rfl) dX6_init_8 (fun H locs hP hD hS => ?_)
  have hP : va_P D vwCl [(a_z, .inr (oc_X6 (.ref q1) .null .null (.int 0) .null .null)), (q1, .inl (cI, 5, .inl (fun _ => 0)))] H := hP
  have hD : va_D A [(a_z, .inr (oc_X6 (.ref q1) .null .null (.int 0) .null .null)), (q1, .inl (cI, 5, .inl (fun _ => 0)))] := hD
  refine lv_aload_n hx hb dX6_init_11 rfl (lv_at hl 0 rfl) ?_
  refine lv_iconst (v := (5 : Int32)) hx hb dX6_init_12 (by decide) ?_
  refine va_newa (atype := .int) (ty := .int) (N' := 5) (a0 := (5, .inl (fun _ => 0))) hx hb (hts (.arrayClass .int) (List.mem_of_getElem? (i := 4) rfl)) rfl hK hP hD hS hA (fr_aI 5) (by decide +kernel) (by decide +kernel) (by decide +kernel) (by decide +kernel) (by decide +kernel) dX6_init_13 (fun q2 cA H hKn hP hD hS => ?_)
  obtain rfl : cI = cA := Option.some.inj ((hK.2 0 _ rfl).2.symm.trans (hKn.2 5 _ rfl).2)
  have hP : va_P D vwCl [(a_z, .inr (oc_X6 (.ref q1) .null .null (.int 0) .null .null)), (q1, .inl (cI, 5, .inl (fun _ => 0))), (q2, .inl (cI, 5, .inl (fun _ => 0)))] H := hP
  have hD : va_D A [(a_z, .inr (oc_X6 (.ref q1) .null .null (.int 0) .null .null)), (q1, .inl (cI, 5, .inl (fun _ => 0))), (q2, .inl (cI, 5, .inl (fun _ => 0)))] := hD
  refine W.widen (k := 2) (n := 10) (by omega) (by omega) ?_
  refine va_putF (D := D) (ci := 6) (v := .ref q2) (ty := (.array .int)) (C := RX6) (T := TX6) (N := 6) hx hb hts in_X6_init_X6 tyX6 tyX6_ok nmX6 hown hK hP hD hS 0 rfl rfl 1 (by decide) (hts (.fieldLink RX6 13 "FastestRun$Splits" "earliest" "[I") (List.mem_of_getElem? (i := 6) rfl)) (fun _ h9 => h9) rfl hin rfl (by decide +kernel) rfl rfl (Nat.le_of_ble_eq_true rfl) dX6_init_15 (fun H locs hP hD hS => ?_)
  have hP : va_P D vwCl [(a_z, .inr (oc_X6 (.ref q1) (.ref q2) .null (.int 0) .null .null)), (q1, .inl (cI, 5, .inl (fun _ => 0))), (q2, .inl (cI, 5, .inl (fun _ => 0)))] H := hP
  have hD : va_D A [(a_z, .inr (oc_X6 (.ref q1) (.ref q2) .null (.int 0) .null .null)), (q1, .inl (cI, 5, .inl (fun _ => 0))), (q2, .inl (cI, 5, .inl (fun _ => 0)))] := hD
  refine lv_aload_n hx hb dX6_init_18 rfl (lv_at hl 0 rfl) ?_
  refine lv_iconst (v := (5 : Int32)) hx hb dX6_init_19 (by decide) ?_
  refine va_newa (atype := .int) (ty := .int) (N' := 5) (a0 := (5, .inl (fun _ => 0))) hx hb (hts (.arrayClass .int) (List.mem_of_getElem? (i := 4) rfl)) rfl hK hP hD hS hA (fr_aI 5) (by decide +kernel) (by decide +kernel) (by decide +kernel) (by decide +kernel) (by decide +kernel) dX6_init_20 (fun q3 cA H hKn hP hD hS => ?_)
  obtain rfl : cI = cA := Option.some.inj ((hK.2 0 _ rfl).2.symm.trans (hKn.2 5 _ rfl).2)
  have hP : va_P D vwCl [(a_z, .inr (oc_X6 (.ref q1) (.ref q2) .null (.int 0) .null .null)), (q1, .inl (cI, 5, .inl (fun _ => 0))), (q2, .inl (cI, 5, .inl (fun _ => 0))), (q3, .inl (cI, 5, .inl (fun _ => 0)))] H := hP
  have hD : va_D A [(a_z, .inr (oc_X6 (.ref q1) (.ref q2) .null (.int 0) .null .null)), (q1, .inl (cI, 5, .inl (fun _ => 0))), (q2, .inl (cI, 5, .inl (fun _ => 0))), (q3, .inl (cI, 5, .inl (fun _ => 0)))] := hD
  refine W.widen (k := 3) (n := 15) (by omega) (by omega) ?_
  refine va_putF (D := D) (ci := 6) (v := .ref q3) (ty := (.array .int)) (C := RX6) (T := TX6) (N := 6) hx hb hts in_X6_init_X6 tyX6 tyX6_ok nmX6 hown hK hP hD hS 0 rfl rfl 2 (by decide) (hts (.fieldLink RX6 16 "FastestRun$Splits" "latest" "[I") (List.mem_of_getElem? (i := 7) rfl)) (fun _ h9 => h9) rfl hin rfl (by decide +kernel) rfl rfl (Nat.le_of_ble_eq_true rfl) dX6_init_22 (fun H locs hP hD hS => ?_)
  have hP : va_P D vwCl [(a_z, .inr (oc_X6 (.ref q1) (.ref q2) (.ref q3) (.int 0) .null .null)), (q1, .inl (cI, 5, .inl (fun _ => 0))), (q2, .inl (cI, 5, .inl (fun _ => 0))), (q3, .inl (cI, 5, .inl (fun _ => 0)))] H := hP
  have hD : va_D A [(a_z, .inr (oc_X6 (.ref q1) (.ref q2) (.ref q3) (.int 0) .null .null)), (q1, .inl (cI, 5, .inl (fun _ => 0))), (q2, .inl (cI, 5, .inl (fun _ => 0))), (q3, .inl (cI, 5, .inl (fun _ => 0)))] := hD
  refine lv_aload_n hx hb dX6_init_25 rfl (lv_at hl 0 rfl) ?_
  refine lv_bipush (v := (48 : Int32)) hx hb dX6_init_26 (by decide) ?_
  refine va_newa (atype := .long) (ty := .long) (N' := 48) (a0 := (48, .inr (.inl (fun _ => 0)))) hx hb (hts (.arrayClass .long) (List.mem_of_getElem? (i := 8) rfl)) rfl hK hP hD hS hA (fr_aJ 48) (by decide +kernel) (by decide +kernel) (by decide +kernel) (by decide +kernel) (by decide +kernel) dX6_init_28 (fun q4 cA H hKn hP hD hS => ?_)
  obtain rfl : cJ = cA := Option.some.inj ((hK.2 1 _ rfl).2.symm.trans (hKn.2 5 _ rfl).2)
  have hP : va_P D vwCl [(a_z, .inr (oc_X6 (.ref q1) (.ref q2) (.ref q3) (.int 0) .null .null)), (q1, .inl (cI, 5, .inl (fun _ => 0))), (q2, .inl (cI, 5, .inl (fun _ => 0))), (q3, .inl (cI, 5, .inl (fun _ => 0))), (q4, .inl (cJ, 48, .inr (.inl (fun _ => 0))))] H := hP
  have hD : va_D A [(a_z, .inr (oc_X6 (.ref q1) (.ref q2) (.ref q3) (.int 0) .null .null)), (q1, .inl (cI, 5, .inl (fun _ => 0))), (q2, .inl (cI, 5, .inl (fun _ => 0))), (q3, .inl (cI, 5, .inl (fun _ => 0))), (q4, .inl (cJ, 48, .inr (.inl (fun _ => 0))))] := hD
  refine W.widen (k := 4) (n := 63) (by omega) (by omega) ?_
  refine va_put (D := D) (ci := 6) (v := .ref q4) (ty := (.array .long)) (C := RX6) (T := TX6) (N := 6) hx hb hts in_X6_init_X6 tyX6 tyX6_ok nmX6 hown hK hP hD hS 0 rfl rfl 4 (by decide) (hts (.fieldLink RX6 21 "FastestRun$Splits" "here" "[J") (List.mem_of_getElem? (i := 9) rfl)) (fun _ h9 => h9) rfl (by decide +kernel) rfl rfl (Nat.le_of_ble_eq_true rfl) dX6_init_30 (fun H locs hP hD hS => ?_)
  have hP : va_P D vwCl [(a_z, .inr (oc_X6 (.ref q1) (.ref q2) (.ref q3) (.int 0) (.ref q4) .null)), (q1, .inl (cI, 5, .inl (fun _ => 0))), (q2, .inl (cI, 5, .inl (fun _ => 0))), (q3, .inl (cI, 5, .inl (fun _ => 0))), (q4, .inl (cJ, 48, .inr (.inl (fun _ => 0))))] H := hP
  have hD : va_D A [(a_z, .inr (oc_X6 (.ref q1) (.ref q2) (.ref q3) (.int 0) (.ref q4) .null)), (q1, .inl (cI, 5, .inl (fun _ => 0))), (q2, .inl (cI, 5, .inl (fun _ => 0))), (q3, .inl (cI, 5, .inl (fun _ => 0))), (q4, .inl (cJ, 48, .inr (.inl (fun _ => 0))))] := hD
  refine lv_aload_n hx hb dX6_init_33 rfl (lv_at hl 0 rfl) ?_
  refine lv_bipush (v := (48 : Int32)) hx hb dX6_init_34 (by decide) ?_
  refine va_newa (atype := .long) (ty := .long) (N' := 48) (a0 := (48, .inr (.inl (fun _ => 0)))) hx hb (hts (.arrayClass .long) (List.mem_of_getElem? (i := 8) rfl)) rfl hK hP hD hS hA (fr_aJ 48) (by decide +kernel) (by decide +kernel) (by decide +kernel) (by decide +kernel) (by decide +kernel) dX6_init_36 (fun q5 cA H hKn hP hD hS => ?_)
  obtain rfl : cJ = cA := Option.some.inj ((hK.2 1 _ rfl).2.symm.trans (hKn.2 5 _ rfl).2)
  have hP : va_P D vwCl [(a_z, .inr (oc_X6 (.ref q1) (.ref q2) (.ref q3) (.int 0) (.ref q4) .null)), (q1, .inl (cI, 5, .inl (fun _ => 0))), (q2, .inl (cI, 5, .inl (fun _ => 0))), (q3, .inl (cI, 5, .inl (fun _ => 0))), (q4, .inl (cJ, 48, .inr (.inl (fun _ => 0)))), (q5, .inl (cJ, 48, .inr (.inl (fun _ => 0))))] H := hP
  have hD : va_D A [(a_z, .inr (oc_X6 (.ref q1) (.ref q2) (.ref q3) (.int 0) (.ref q4) .null)), (q1, .inl (cI, 5, .inl (fun _ => 0))), (q2, .inl (cI, 5, .inl (fun _ => 0))), (q3, .inl (cI, 5, .inl (fun _ => 0))), (q4, .inl (cJ, 48, .inr (.inl (fun _ => 0)))), (q5, .inl (cJ, 48, .inr (.inl (fun _ => 0))))] := hD
  refine W.widen (k := 5) (n := 111) (by omega) (by omega) ?_
  refine va_put (D := D) (ci := 6) (v := .ref q5) (ty := (.array .long)) (C := RX6) (T := TX6) (N := 6) hx hb hts in_X6_init_X6 tyX6 tyX6_ok nmX6 hown hK hP hD hS 0 rfl rfl 5 (by decide) (hts (.fieldLink RX6 25 "FastestRun$Splits" "ahead" "[J") (List.mem_of_getElem? (i := 10) rfl)) (fun _ h9 => h9) rfl (by decide +kernel) rfl rfl (Nat.le_of_ble_eq_true rfl) dX6_init_38 (fun H locs hP hD hS => ?_)
  have hP : va_P D vwCl [(a_z, .inr (ob_X6 q1 q2 q3 0 q4 q5)), (q1, .inl (cI, 5, .inl (fun _ => 0))), (q2, .inl (cI, 5, .inl (fun _ => 0))), (q3, .inl (cI, 5, .inl (fun _ => 0))), (q4, .inl (cJ, 48, .inr (.inl (fun _ => 0)))), (q5, .inl (cJ, 48, .inr (.inl (fun _ => 0))))] H := hP
  have hD : va_D A [(a_z, .inr (ob_X6 q1 q2 q3 0 q4 q5)), (q1, .inl (cI, 5, .inl (fun _ => 0))), (q2, .inl (cI, 5, .inl (fun _ => 0))), (q3, .inl (cI, 5, .inl (fun _ => 0))), (q4, .inl (cJ, 48, .inr (.inl (fun _ => 0)))), (q5, .inl (cJ, 48, .inr (.inl (fun _ => 0))))] := hD
  exact W.vret hx hb hr (fun t ht hW => ⟨⟨[q1, q2, q3, q4, q5], rfl, trivial, by rw [ht]; exact hP, hD⟩, hS.F ht⟩) hS.2.2 dX6_init_41 hlocks
