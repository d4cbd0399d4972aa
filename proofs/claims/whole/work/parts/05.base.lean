/-! the ground: options, the context that every contract carries, calls -/
theorem fr_ifp {c : Prop} [Decidable c] {α : Type} {a b : Option α} {o : α} (h : c) (hm : (if c then a else b) = some o) : a = some o := by rw [if_pos h] at hm; exact hm
theorem fr_ifn {c : Prop} [Decidable c] {α : Type} {a b : Option α} {o : α} (h : ¬ c) (hm : (if c then a else b) = some o) : b = some o := by rw [if_neg h] at hm; exact hm
theorem fr_ck {c : Prop} [Decidable c] {α : Type} {a : Option α} {o : α} (hm : (if c then none else a) = some o) : ¬ c ∧ a = some o := by
  by_cases h : c
  · rw [if_pos h] at hm; cases hm
  · rw [if_neg h] at hm; exact ⟨h, hm⟩
theorem fr_bd {α β : Type} {x : Option α} {f : α → Option β} {o : β} (hm : x.bind f = some o) : ∃ a, x = some a ∧ f a = some o := by
  cases x with
  | none => cases hm
  | some a => exact ⟨a, rfl, hm⟩
theorem fr_tip {c : Prop} [Decidable c] {α : Type} {a b : α} {o : α} (h : c) (hm : (if c then a else b) = o) : a = o := by rw [if_pos h] at hm; exact hm
theorem fr_tin {c : Prop} [Decidable c] {α : Type} {a b : α} {o : α} (h : ¬ c) (hm : (if c then a else b) = o) : b = o := by rw [if_neg h] at hm; exact hm
theorem fr_nz {x : Int32} (h : ¬ ¬ (x = (0 : Int32) ∨ x = (1 : Int32))) : narrow .boolean (.int x) = .int x := by
  rcases Classical.not_not.mp h with h | h
  · rw [h]; rfl
  · rw [h]; rfl
theorem fr_lt {i : Int32} {n : Nat} (h : ¬ (i < 0 ∨ n ≤ i.toNatClampNeg)) : i.toNatClampNeg < n := Nat.not_le.mp fun q => h (Or.inr q)
theorem fr_cpb {n : Int32} {a : Nat} (h : ¬ a < n.toNatClampNeg) : (0 : Int32).toNatClampNeg + n.toNatClampNeg ≤ a := by rw [sb_cl0]; omega
def fr_pool (ad : Nat → Nat) (f0 f1 f2 f3 f4 f5 f6 f7 f8 : Nat → Int32) : va_W := (List.range 40).map (fun i => (ad i, .inr (1, [.int (f0 i), .int (f1 i), .int (f2 i), .int (f3 i), .int (f4 i), .int (f5 i), .int (f6 i), .int (f7 i), .int (f8 i)])))
theorem fr_pl {ad : Nat → Nat} {f0 f1 f2 f3 f4 f5 f6 f7 f8 : Nat → Int32} {X : va_W} {k : Nat} (hk : k < 40) : (X ++ fr_pool ad f0 f1 f2 f3 f4 f5 f6 f7 f8)[X.length + k]? = some (ad k, .inr (1, [.int (f0 k), .int (f1 k), .int (f2 k), .int (f3 k), .int (f4 k), .int (f5 k), .int (f6 k), .int (f7 k), .int (f8 k)])) := by
  rw [List.getElem?_append_right (Nat.le_add_right _ _), Nat.add_sub_cancel_left]
  simp [fr_pool, hk]
theorem fr_one {D : va_G} {ws : va_W} {H : Heap} {q : Nat} {x : Nat × va_E} (hP : va_P D vwCl ws H) (h : ws[q]? = some x) : va_P D vwCl [x] H := by
  intro k y hk
  cases k with
  | zero => cases hk; exact hP q _ h
  | succ k => simp at hk
def fr_k4 (a b c d : Nat) : Nat → Option Nat := va_up (va_up (va_up (va_up (fun _ => none) 0 (some a)) 1 (some b)) 2 (some c)) 3 (some d)
def fr_nf : List (String × Nat × String × String × String) := [("FastestRun$Splits", 68, "FastestRun$Game", "keyCells", "[J"), ("FastestRun$Splits", 56, "FastestRun$Game", "goalCells", "J"), ("FastestRun", 249, "FastestRun$Game", "width", "I"), ("FastestRun", 252, "FastestRun$Game", "height", "I"), ("FastestRun$Search", 32, "FastestRun$Game", "roundLength", "I"), ("FastestRun", 255, "FastestRun$Game", "roundLength", "I"), ("FastestRun$Splits", 38, "FastestRun$Game", "startCell", "I"), ("FastestRun", 93, "FastestRun$Game", "startCell", "I"), ("FastestRun", 106, "FastestRun$Row", "length", "I"), ("FastestRun", 103, "FastestRun$Run", "presses", "LFastestRun$Row;"), ("FastestRun", 112, "FastestRun$Run", "spot", "I"), ("FastestRun", 100, "FastestRun$Run", "outcome", "I"), ("FastestRun", 155, "FastestRun$Search", "row", "LFastestRun$Row;"), ("FastestRun", 172, "FastestRun$Splits", "length", "I"), ("FastestRun$RoadMap", 83, "FastestRun$Road", "from", "I"), ("FastestRun$RoadMap", 94, "FastestRun$Road", "to", "I"), ("FastestRun$RoadMap", 97, "FastestRun$Road", "gives", "I"), ("FastestRun$RoadMap", 100, "FastestRun$Road", "ticks", "I"), ("FastestRun$RoadMap", 155, "FastestRun$Road", "odds", "I"), ("FastestRun$RoadMap", 137, "FastestRun$Road", "failRoom", "I"), ("FastestRun$RoadMap", 152, "FastestRun$Road", "failTicks", "I"), ("FastestRun", 216, "FastestRun$Road", "barred", "Z"), ("FastestRun", 194, "FastestRun$RoadMap", "roads", "[LFastestRun$Road;"), ("FastestRun", 197, "FastestRun$RoadMap", "length", "I"), ("FastestRun", 226, "FastestRun$RoadMap", "goalRoom", "I"), ("FastestRun", 229, "FastestRun$RoadMap", "goalThings", "I"), ("FastestRun", 232, "FastestRun$RoadMap", "anewPrice", "I")]
def fr_nm : List (String × Nat × MethodName) := [("FastestRun", 18, ⟨"FastestRun$Run", "<init>", "()V"⟩), ("FastestRun", 33, ⟨"FastestRun$Search", "<init>", "()V"⟩), ("FastestRun", 49, ⟨"FastestRun$Splits", "<init>", "()V"⟩), ("FastestRun$RoadMap", 38, ⟨"FastestRun$Road", "<init>", "()V"⟩), ("FastestRun$Game", 96, ⟨"FastestRun", "isPress", "(I)Z"⟩)]
abbrev fr_ty (cI cJ cZ cR cN : ClassId) : List (ClassId × FieldType) := [(cI, .int), (cJ, .long), (cZ, .boolean), (cR, .object "FastestRun$Road"), (cN, .object "FastestRun$Run")]
/-- the tables' part of every contract: classes, array classes, nest links -/
def fr_cx (D : va_G) (cI cJ cZ cR cN : ClassId) (U : State) : Prop := va_K D vwCl (fr_ty cI cJ cZ cR cN) U ∧ (∀ q ∈ fr_nf, va_Nw (.fieldLinkNest q.1 q.2.1 q.2.2.1 q.2.2.2.1 q.2.2.2.2 "FastestRun") U) ∧ ∀ q ∈ fr_nm, va_Nw (.methodLinkNest q.1 q.2.1 q.2.2 "FastestRun") U
theorem fr_cx.warm {D : va_G} {cI cJ cZ cR cN : ClassId} {s U : State} (h : fr_cx D cI cJ cZ cR cN s) (hW : s.WarmedH U.vm) : fr_cx D cI cJ cZ cR cN U := ⟨va_K.moved hW.alike h.1, fun q hq => va_Nw.warmF hW (h.2.1 q hq), fun q hq => va_Nw.warmM hW (h.2.2 q hq)⟩
theorem fr_cx.calling {D : va_G} {cI cJ cZ cR cN : ClassId} {U : State} {g : JFrame} {mk : MethodId} {a : Array Value} (h : fr_cx D cI cJ cZ cR cN U) : fr_cx D cI cJ cZ cR cN (U.calling g mk a) := ⟨va_K.moved (u := U) (U := U.calling g mk a) (Vm.Alike.refl U.vm) h.1, fun q hq => va_Nw.same rfl rfl (h.2.1 q hq), fun q hq => va_Nw.same rfl rfl (h.2.2 q hq)⟩
def fr_sx (tX tY : Nat) (A : Nat → Prop) (U : State) (H : Heap) : Prop := va_Z "FastestRun$Game" "STEP_X" "[I" (.ref tX) A U H ∧ va_Z "FastestRun$Game" "STEP_Y" "[I" (.ref tY) A U H ∧ va_T .int tX 5 (fun j => .int (fr_sX j)) A U H ∧ va_T .int tY 5 (fun j => .int (fr_sY j)) A U H
theorem fr_sx.go {tX tY : Nat} {A B : Nat → Prop} {s U : State} {H : Heap} {locs : List Loc} (h : fr_sx tX tY A s s.heap) (hS : va_S A s.heap H locs) (hW : s.WarmedH U.vm) (hB : ∀ q, B q → A q) (hH : U.heap = H) : fr_sx tX tY B U U.heap := by
  rw [hH]
  exact ⟨((h.1.kept hS.2.1).narrow hB).moved hW.alike, ((h.2.1.kept hS.2.1).narrow hB).moved hW.alike, ((h.2.2.1.kept hS.2.1).narrow hB).moved hW.alike, ((h.2.2.2.kept hS.2.1).narrow hB).moved hW.alike⟩
theorem fr_sx.calling {tX tY : Nat} {A : Nat → Prop} {U : State} {H : Heap} {g : JFrame} {mk : MethodId} {a : Array Value} (h : fr_sx tX tY A U H) : fr_sx tX tY A (U.calling g mk a) H := ⟨h.1.moved (Vm.Alike.refl U.vm), h.2.1.moved (Vm.Alike.refl U.vm), h.2.2.1.moved (Vm.Alike.refl U.vm), h.2.2.2.moved (Vm.Alike.refl U.vm)⟩
/-- what every stretch of a method's body stands on -/
def fr_BX (p : Program) (s : State) (m : MethodId) (args : Array Value) (meth : Method) (c : Code) (cc : ByteArray) (ret : Option FieldType) (nL : Nat) (own : String) (Ts : List Cond) : Prop := p.tables.exec = Jvm.exec ∧ c.code = cc ∧ meth.sig.returnType = ret ∧ c.maxLocals = nL ∧ s.vm.findClass own = some m.cls ∧ (∀ w ∈ Ts, w.before args s = true) ∧ meth.locks = false
-- the ends
abbrev fr_Ri (H0 : Heap) (r : Int32) : Array Value → State → Outcome → State → Prop := va_Qi (S := Unit) (fun x _ => x = r) (fun _ t => t.heap = H0) (fun _ => False)
abbrev fr_Rl (H0 : Heap) (r : Int64) : Array Value → State → Outcome → State → Prop := va_Ql (S := Unit) (fun x _ => x = r) (fun _ t => t.heap = H0) (fun _ => False)
abbrev fr_Wi (D : va_G) (ws : va_W) (A : Nat → Prop) (r : Int32) : Array Value → State → Outcome → State → Prop := va_Qi (S := Unit) (fun x _ => x = r) (fun _ t => va_P D vwCl ws t.heap ∧ va_D A ws) A
abbrev fr_Wl (D : va_G) (ws : va_W) (A : Nat → Prop) (r : Int64) : Array Value → State → Outcome → State → Prop := va_Ql (S := Unit) (fun x _ => x = r) (fun _ t => va_P D vwCl ws t.heap ∧ va_D A ws) A
abbrev fr_Wv (D : va_G) (ws : va_W) (A : Nat → Prop) : Array Value → State → Outcome → State → Prop := va_Qv (S := Unit) (fun _ => True) (fun _ t => va_P D vwCl ws t.heap ∧ va_D A ws) A
abbrev fr_Xi (D : va_G) (ws : Nat × Nat → va_W) (A : Nat → Prop) (r : Int32) : Array Value → State → Outcome → State → Prop := va_Qi (S := Nat × Nat) (fun x _ => x = r) (fun u t => va_P D vwCl (ws u) t.heap ∧ va_D A (ws u)) A
-- the starts
abbrev fr_Pr (D : va_G) (cI cJ cZ cR cN : ClassId) (as : List Value) (H0 : Heap) : Array Value → State → Prop := va_Pc as (fun U => U.heap = H0 ∧ fr_cx D cI cJ cZ cR cN U)
abbrev fr_Prs (D : va_G) (cI cJ cZ cR cN : ClassId) (tX tY : Nat) (as : List Value) (H0 : Heap) : Array Value → State → Prop := va_Pc as (fun U => U.heap = H0 ∧ fr_cx D cI cJ cZ cR cN U ∧ fr_sx tX tY (fun _ => False) U U.heap)
abbrev fr_Pw (D : va_G) (cI cJ cZ cR cN : ClassId) (as : List Value) (ws : va_W) (sz : Nat) : Array Value → State → Prop := va_Pc as (fun U => U.heap.size = sz ∧ va_P D vwCl ws U.heap ∧ va_D (fun _ => True) ws ∧ fr_cx D cI cJ cZ cR cN U)
abbrev fr_Pws (D : va_G) (cI cJ cZ cR cN : ClassId) (tX tY : Nat) (as : List Value) (ws : va_W) (sz : Nat) : Array Value → State → Prop := va_Pc as (fun U => U.heap.size = sz ∧ va_P D vwCl ws U.heap ∧ va_D (fun _ => True) ws ∧ fr_cx D cI cJ cZ cR cN U ∧ fr_sx tX tY (va_A ws sz) U U.heap)
theorem fr_ofW {l : Launch} {y : MethodName} {ws ws' : List Cond} {rm : Room} {Pc : Array Value → State → Prop} {Qc : Array Value → State → Outcome → State → Prop} {mc ms : Nat} {free : Addr → Prop} {cc : ByteArray} {maxL : Nat} {ret : Option FieldType} (hy : plainFor y = true) (hw : ws = Cond.code y cc maxL ret :: ws')
    (body : ∀ p e s m args below meth c s₁, BodyLoose p l y (headSpec ws rm) cc maxL ret e s m args below meth c s₁ → c.maxLocals = maxL → Pc args s → W p l e (headSpec ws rm).room s m args below meth c s.heap [] 0 0 (MQ below Qc args s mc ms free) (entryFrame m args maxL)) : Met l y ws rm Pc Qc mc ms free := by
  refine MetFree.of_bodySF (code := cc) (maxLocals := maxL) (ret := ret) hy (fun args s m h hn => ?_) (fun p e s m args below meth c s₁ B hml hP _ => ?_)
  · obtain ⟨meth, c, h1, h2, h3, h4, h5, h6, -, -⟩ := Cond.code_spec hn (atoms_spec (ws := ws) h _ (by rw [hw]; exact List.mem_cons_self))
    exact ⟨meth, c, h1, h2, h3, h4, h5, h6⟩
  · have hh0 : s₁.heap = s.heap := by rw [B.state]; rfl
    obtain ⟨t, a1, o, b1, b2, b3⟩ := body p e s m args below meth c s₁ B hml hP s₁ hh0 (Stand.of_body B)
    exact ⟨t, o, a1, b1, b2, ⟨b3.1, b3.2⟩⟩
section FRP
variable {D : va_G} {cI cJ cZ cR cN : ClassId} {s : State} {H : Heap} {C : String} {b : Addr} {as : List Value} {ws : va_W} {tX tY : Nat} {A : Nat → Prop} {locs : List Loc}
theorem fr_pvr (hcx : fr_cx D cI cJ cZ cR cN s) (hrec : ∃ cell : Cell, H[b]? = some cell ∧ cell.vm.isStatics = false ∧ s.vm.findClass C = some cell.cls) : PreV s H C b (fr_Pr D cI cJ cZ cR cN (.ref b :: as) H) as := ⟨fun a U g mk q => ⟨q.1, q.2.1, q.2.2.calling⟩, hrec, fun U hU hW => ⟨rfl, hU, hcx.warm hW⟩⟩
theorem fr_psr (hcx : fr_cx D cI cJ cZ cR cN s) : PreS s H (fr_Pr D cI cJ cZ cR cN as H) as := ⟨fun a U g mk q => ⟨q.1, q.2.1, q.2.2.calling⟩, fun U hU hW => ⟨rfl, hU, hcx.warm hW⟩⟩
theorem fr_pvrs (hcx : fr_cx D cI cJ cZ cR cN s) (hst : fr_sx tX tY A s s.heap) (hS : va_S A s.heap H locs) (hrec : ∃ cell : Cell, H[b]? = some cell ∧ cell.vm.isStatics = false ∧ s.vm.findClass C = some cell.cls) : PreV s H C b (fr_Prs D cI cJ cZ cR cN tX tY (.ref b :: as) H) as := ⟨fun a U g mk q => ⟨q.1, q.2.1, q.2.2.1.calling, q.2.2.2.calling⟩, hrec, fun U hU hW => ⟨rfl, hU, hcx.warm hW, hst.go hS hW (fun _ h => h.elim) hU⟩⟩
theorem fr_pvw (hcx : fr_cx D cI cJ cZ cR cN s) (hP : va_P D vwCl ws H) (hD : va_D A ws) (hrec : ∃ cell : Cell, H[b]? = some cell ∧ cell.vm.isStatics = false ∧ s.vm.findClass C = some cell.cls) : PreV s H C b (fr_Pw D cI cJ cZ cR cN (.ref b :: as) ws H.size) as := ⟨fun a U g mk q => ⟨q.1, q.2.1, q.2.2.1, q.2.2.2.1, q.2.2.2.2.calling⟩, hrec, fun U hU hW => ⟨rfl, by rw [hU], by rw [hU]; exact hP, hD.weaken (fun _ _ _ _ => trivial), hcx.warm hW⟩⟩
theorem fr_psw (hcx : fr_cx D cI cJ cZ cR cN s) (hP : va_P D vwCl ws H) (hD : va_D A ws) : PreS s H (fr_Pw D cI cJ cZ cR cN as ws H.size) as := ⟨fun a U g mk q => ⟨q.1, q.2.1, q.2.2.1, q.2.2.2.1, q.2.2.2.2.calling⟩, fun U hU hW => ⟨rfl, by rw [hU], by rw [hU]; exact hP, hD.weaken (fun _ _ _ _ => trivial), hcx.warm hW⟩⟩
theorem fr_pvws (hcx : fr_cx D cI cJ cZ cR cN s) (hst : fr_sx tX tY A s s.heap) (hS : va_S A s.heap H locs) (hP : va_P D vwCl ws H) (hD : va_D A ws) (hF : ∀ q, va_A ws H.size q → A q) (hrec : ∃ cell : Cell, H[b]? = some cell ∧ cell.vm.isStatics = false ∧ s.vm.findClass C = some cell.cls) : PreV s H C b (fr_Pws D cI cJ cZ cR cN tX tY (.ref b :: as) ws H.size) as := ⟨fun a U g mk q => ⟨q.1, q.2.1, q.2.2.1, q.2.2.2.1, q.2.2.2.2.1.calling, q.2.2.2.2.2.calling⟩, hrec, fun U hU hW => ⟨rfl, by rw [hU], by rw [hU]; exact hP, hD.weaken (fun _ _ _ _ => trivial), hcx.warm hW, hst.go hS hW hF hU⟩⟩
end FRP
/-- a part of a world, in an order of its own, from places -/
theorem fr_sub {D : va_G} {ws ws' : va_W} {H : Heap} (h : va_P D vwCl ws H) (is : List Nat) (hs : is.map (fun i => ws[i]?) = ws'.map some) : va_P D vwCl ws' H := by
  intro k q hk
  have h1 : (is.map (fun i => ws[i]?))[k]? = some (some q) := by rw [hs, List.getElem?_map, hk]; rfl
  rw [List.getElem?_map] at h1
  cases hi : is[k]? with
  | none => rw [hi] at h1; cases h1
  | some i => rw [hi] at h1; exact h i q (Option.some.inj h1)
section FRC
variable {p : Program} {l : Launch} {e : Env} {R : Room} {s : State} {m : MethodId} {args : Array Value} {below : List Frame} {meth : Method} {c : Code} {H : Heap} {locs : List Loc} {cells slots : Nat} {Q : State → Prop}
variable {pc : Nat} {ls : Array Slot} {rest st0 : List Value} {a : Array Value} {A0 : Nat → Prop} {H0 : Heap} {D : va_G} {ws wc w1 wr ws2 : va_W}
/-- behind a call that only read: an int, a long -/
theorem fr_roi {r : Int32} (hr : va_Run p l e R s m args below meth c H locs cells slots 0 0 (F0 m pc ls st0) rest (fr_Ri H r a) (fun _ => False)) (hS : va_S A0 H0 H locs)
    (kk : ∀ locs1 : List Loc, va_S A0 H0 H locs1 → W p l e R s m args below meth c H locs1 cells slots Q (F0 m (pc + 3) ls (.int r :: rest))) : W p l e R s m args below meth c H locs cells slots Q (F0 m pc ls st0) := by
  refine va_calli hr hS (fun _ _ h => h.elim) (fun _ h => h.elim) (fun x u t H1 locs1 ht hvm hw hB hz hk hS1 => ?_)
  have hH : H1 = H := ht.symm.trans hB
  subst hH
  subst hw
  exact kk locs1 hS1
theorem fr_rol {r : Int64} (hr : va_Run p l e R s m args below meth c H locs cells slots 0 0 (F0 m pc ls st0) rest (fr_Rl H r a) (fun _ => False)) (hS : va_S A0 H0 H locs)
    (kk : ∀ locs1 : List Loc, va_S A0 H0 H locs1 → W p l e R s m args below meth c H locs1 cells slots Q (F0 m (pc + 3) ls (.long r :: rest))) : W p l e R s m args below meth c H locs cells slots Q (F0 m pc ls st0) := by
  refine va_calll hr hS (fun _ _ h => h.elim) (fun _ h => h.elim) (fun x u t H1 locs1 ht hvm hw hB hz hk hS1 => ?_)
  have hH : H1 = H := ht.symm.trans hB
  subst hH
  subst hw
  exact kk locs1 hS1
/-- what comes together behind a call that wrote: the callee's cells (places isC), the others (isR), in the order told by is -/
theorem fr_after {H1 : Heap} (hP : va_P D vwCl ws H) (hD : va_D A0 ws) (isC isR is : List Nat) (hC : isC.map (fun i => ws[i]?) = wc.map some) (hR : isR.map (fun i => ws[i]?) = wr.map some) (hn : va_nd isR = true) (hdis : isR.all (fun i => !(isC.contains i)) = true) (hn2 : va_nd is = true) (hs : is.map (fun i => (wr ++ w1)[i]?) = ws2.map some)
    (hk : ∀ q : Nat, q < H.size → ¬ va_A wc H.size q → H1[q]? = H[q]?) (hF : ∀ q, va_A wc H.size q → A0 q) (hP1 : va_P D vwCl w1 H1) (hD1 : va_D (va_A wc H.size) w1) : va_P D vwCl ws2 H1 ∧ va_D A0 ws2 := by
  obtain ⟨hP2, hD2⟩ := va_join hP hD isC isR hC hR hn (fun i hi hc => by
    have h1 := List.all_eq_true.mp hdis i hi
    simp at h1
    exact h1 hc) hk hF hP1 hD1
  exact ⟨fr_sub hP2 is hs, hD2.sub is hn2 hs⟩
theorem fr_rwv (hr : va_Run p l e R s m args below meth c H locs cells slots 0 0 (F0 m pc ls st0) rest (fr_Wv D w1 (va_A wc H.size) a) (va_A wc H.size)) (hS : va_S A0 H0 H locs) (hP : va_P D vwCl ws H) (hD : va_D A0 ws) (hF : ∀ q, va_A wc H.size q → A0 q) (isC isR is : List Nat) (hC : isC.map (fun i => ws[i]?) = wc.map some) (hR : isR.map (fun i => ws[i]?) = wr.map some) (hn : va_nd isR = true) (hdis : isR.all (fun i => !(isC.contains i)) = true) (hn2 : va_nd is = true) (hs : is.map (fun i => (wr ++ w1)[i]?) = ws2.map some)
    (kk : ∀ (H1 : Heap) (locs1 : List Loc), va_P D vwCl ws2 H1 → va_D A0 ws2 → va_S A0 H0 H1 locs1 → W p l e R s m args below meth c H1 locs1 cells slots Q (F0 m (pc + 3) ls rest)) : W p l e R s m args below meth c H locs cells slots Q (F0 m pc ls st0) := by
  refine va_callv hr hS (fun q _ h => hF q h) hF (fun u t H1 locs1 ht hvm hw hB hz hk hS1 => ?_)
  obtain ⟨hP1, hD1⟩ := hB
  rw [ht] at hP1
  obtain ⟨hP2, hD2⟩ := fr_after hP hD isC isR is hC hR hn hdis hn2 hs hk hF hP1 hD1
  exact kk H1 locs1 hP2 hD2 hS1
theorem fr_rwi {r : Int32} (hr : va_Run p l e R s m args below meth c H locs cells slots 0 0 (F0 m pc ls st0) rest (fr_Wi D w1 (va_A wc H.size) r a) (va_A wc H.size)) (hS : va_S A0 H0 H locs) (hP : va_P D vwCl ws H) (hD : va_D A0 ws) (hF : ∀ q, va_A wc H.size q → A0 q) (isC isR is : List Nat) (hC : isC.map (fun i => ws[i]?) = wc.map some) (hR : isR.map (fun i => ws[i]?) = wr.map some) (hn : va_nd isR = true) (hdis : isR.all (fun i => !(isC.contains i)) = true) (hn2 : va_nd is = true) (hs : is.map (fun i => (wr ++ w1)[i]?) = ws2.map some)
    (kk : ∀ (H1 : Heap) (locs1 : List Loc), va_P D vwCl ws2 H1 → va_D A0 ws2 → va_S A0 H0 H1 locs1 → W p l e R s m args below meth c H1 locs1 cells slots Q (F0 m (pc + 3) ls (.int r :: rest))) : W p l e R s m args below meth c H locs cells slots Q (F0 m pc ls st0) := by
  refine va_calli hr hS (fun q _ h => hF q h) hF (fun x u t H1 locs1 ht hvm hw hB hz hk hS1 => ?_)
  obtain ⟨hP1, hD1⟩ := hB
  rw [ht] at hP1
  subst hw
  obtain ⟨hP2, hD2⟩ := fr_after hP hD isC isR is hC hR hn hdis hn2 hs hk hF hP1 hD1
  exact kk H1 locs1 hP2 hD2 hS1
theorem fr_rwl {r : Int64} (hr : va_Run p l e R s m args below meth c H locs cells slots 0 0 (F0 m pc ls st0) rest (fr_Wl D w1 (va_A wc H.size) r a) (va_A wc H.size)) (hS : va_S A0 H0 H locs) (hP : va_P D vwCl ws H) (hD : va_D A0 ws) (hF : ∀ q, va_A wc H.size q → A0 q) (isC isR is : List Nat) (hC : isC.map (fun i => ws[i]?) = wc.map some) (hR : isR.map (fun i => ws[i]?) = wr.map some) (hn : va_nd isR = true) (hdis : isR.all (fun i => !(isC.contains i)) = true) (hn2 : va_nd is = true) (hs : is.map (fun i => (wr ++ w1)[i]?) = ws2.map some)
    (kk : ∀ (H1 : Heap) (locs1 : List Loc), va_P D vwCl ws2 H1 → va_D A0 ws2 → va_S A0 H0 H1 locs1 → W p l e R s m args below meth c H1 locs1 cells slots Q (F0 m (pc + 3) ls (.long r :: rest))) : W p l e R s m args below meth c H locs cells slots Q (F0 m pc ls st0) := by
  refine va_calll hr hS (fun q _ h => hF q h) hF (fun x u t H1 locs1 ht hvm hw hB hz hk hS1 => ?_)
  obtain ⟨hP1, hD1⟩ := hB
  rw [ht] at hP1
  subst hw
  obtain ⟨hP2, hD2⟩ := fr_after hP hD isC isR is hC hR hn hdis hn2 hs hk hF hP1 hD1
  exact kk H1 locs1 hP2 hD2 hS1
theorem fr_rwxi {r : Int32} {w1 ws2 : Nat × Nat → va_W} (hr : va_Run p l e R s m args below meth c H locs cells slots 0 0 (F0 m pc ls st0) rest (fr_Xi D w1 (va_A wc H.size) r a) (va_A wc H.size)) (hS : va_S A0 H0 H locs) (hP : va_P D vwCl ws H) (hD : va_D A0 ws) (hF : ∀ q, va_A wc H.size q → A0 q) (isC isR is : List Nat) (hC : isC.map (fun i => ws[i]?) = wc.map some) (hR : isR.map (fun i => ws[i]?) = wr.map some) (hn : va_nd isR = true) (hdis : isR.all (fun i => !(isC.contains i)) = true) (hn2 : va_nd is = true) (hs : ∀ u, is.map (fun i => (wr ++ w1 u)[i]?) = (ws2 u).map some)
    (kk : ∀ (u : Nat × Nat) (H1 : Heap) (locs1 : List Loc), va_P D vwCl (ws2 u) H1 → va_D A0 (ws2 u) → va_S A0 H0 H1 locs1 → W p l e R s m args below meth c H1 locs1 cells slots Q (F0 m (pc + 3) ls (.int r :: rest))) : W p l e R s m args below meth c H locs cells slots Q (F0 m pc ls st0) := by
  refine va_calli hr hS (fun q _ h => hF q h) hF (fun x u t H1 locs1 ht hvm hw hB hz hk hS1 => ?_)
  obtain ⟨hP1, hD1⟩ := hB
  rw [ht] at hP1
  subst hw
  obtain ⟨hP2, hD2⟩ := fr_after hP hD isC isR is hC hR hn hdis hn2 (hs u) hk hF hP1 hD1
  exact kk u H1 locs1 hP2 hD2 hS1
end FRC
