def R_law : String := "FastestRunLaw"
def lw_P (b : Addr) (xs : List Int32) (args : Array Value) (s : State) : Prop := args = #[.ref b] ∧ s.IntsAt b xs ∧ xs.length ≤ 4608 ∧ (Jvm.Cond.and given_1 narrow_1).before args s = true
def lw_Q (_ : Array Value) (s : State) (o : Outcome) (t : State) : Prop := o = .returned (some (.int 1)) ∧ Framed s o t [] 600000 7302249
def lw_Z (below : List Frame) (a : Array Value) (s : State) : State → Prop := fun t => ∃ o, t.status = .running ∧ Ended t below o ∧ lw_Q a s o t
/-- the law's own end, with 1 on the stack, nothing written that was there before, its room as the claim has it -/
theorem lw_ret {p : Program} {l : Launch} {e : Env} {s : State} {m : MethodId} {below : List Frame} {meth : Method} {c : Code} {b : Nat} (hx : p.tables.exec = Jvm.exec) (hb : c.code = code) (hr : meth.sig.returnType = ret) (hlocks : meth.locks = false) {pc : Nat} {H : Heap} {ls : Array Slot} (hdg : decode code pc = .ok (.ireturn, 1)) : W p l e room_1 s m #[Value.ref b] below meth c H [] 600000 7302249 (lw_Z below #[Value.ref b] s) (F0 m pc ls [.int 1]) := by
  intro T hT X
  obtain ⟨fs, hret, hrun, hended, hW, hframe⟩ := X.leave (v := some (.int 1)) (hlocks := hlocks) (fun h => by rw [hr] at h; cases h)
  have hmeth' : T.vm.method? m = some meth := X.method'
  refine ⟨T.setFrames fs, ?_, .returned (some (.int 1)), hrun, hended, rfl, ⟨_, rfl⟩, hW, hframe⟩
  jvm_step X.here [X.here.top, hx, hb, hdg, hmeth', hr, ret, narrow_b1]
  (try refine ⟨rfl, ?_⟩); (try refine ⟨rfl, ?_⟩)
  first | (intro acts; rw [hret _ acts rfl rfl rfl]) | rw [hret _ _ rfl rfl rfl]
  exact Steps.refl _
/-- what holds at the law's entry: the machine, the code, the tables' words (any of lw_tbl by 'hts w (by decide +kernel)'), the script of L ints xs at the cell b, what the Statement gives of the start (any of its parts by flat_of_before) -/
def lw_At (p : Program) (s : State) (m : MethodId) (meth : Method) (c : Code) (b L : Nat) (xs : Nat → Int32) : Prop :=
  p.tables.exec = Jvm.exec ∧ c.code = code ∧ meth.sig.returnType = ret ∧ c.maxLocals = 4 ∧ s.vm.findClass R_law = some m.cls ∧ (∀ w ∈ lw_tbl, w.before #[Value.ref b] s = true) ∧ va_X b L xs s s.heap ∧ b < s.heap.size ∧ meth.locks = false ∧ (Jvm.Cond.and given_1 narrow_1).before #[Value.ref b] s = true
set_option maxHeartbeats 4000000 in
set_option maxRecDepth 100000 in
theorem law_loop {p : Program} {l : Launch} {e : Env} {s : State} {m : MethodId} {below : List Frame} {meth : Method} {c : Code} {b L : Nat} {xs : Nat → Int32} (hX : va_X b L xs s s.heap) (hbl : b < s.heap.size) {D : va_G} {cI cJ cZ cR cN : ClassId} {tX tY : Nat} (K : LK p s m c b D cI cJ cZ cR cN tX tY) {ad ac ar : Nat → Nat} {F : Nat} (hF : 10000000 ≤ F) (hL : L ≤ 4608) (hr : meth.sig.returnType = ret) (hlocks : meth.locks = false) : ∀ (n i : Nat), L + 9 ≤ i + 9 * n → i ≤ L + 8 → ∀ (H : Heap) (locs : List Loc) (ls : Array Slot), lv_has ls 4 [(0, .ref b), (1, .ref (ac 0)), (2, .ref (ar 0)), (3, .int (nI i))] → va_S (fun q : Nat => s.heap.size ≤ q) s.heap H locs → IV D cI cJ cZ cR cN ad ac ar (fun q : Nat => s.heap.size ≤ q) H → W p l e room_1 s m #[Value.ref b] below meth c H locs 117 139158 (lw_Z below #[Value.ref b] s) (F0 m 18 ls []) := by
  have K0 := K
  obtain ⟨hx, hb, hml, hown, hts, hcx, hst⟩ := K0
  have hbA : ¬ (fun q : Nat => s.heap.size ≤ q) b := Nat.not_le.mpr hbl
  intro n
  induction n with
  | zero => intro i h1 h2; omega
  | succ n ih =>
    intro i hin hile H locs ls hl hS hIV
    refine lv_iload_n hx hb dL_law_18 rfl (lv_at hl 3 rfl) ?_
    refine lv_aload_n hx hb dL_law_19 rfl (lv_at hl 0 rfl) ?_
    refine va_slen hx hb hX hbl hbA hS dL_law_20 ?_
    refine lv_bipush (v := (9 : Int32)) hx hb dL_law_21 (by decide) ?_
    refine lv_isub hx hb dL_law_23 ?_
    have hcmp : (Int32.ofNat L - 9 < nI i) ↔ L < i + 9 := by
      rw [fa_lt]
      have h1 : (Int32.ofNat L - 9).toInt = (L : Int) - 9 := pk_sub_toInt (a := L) (b := 9) (by omega) (by decide)
      rw [h1, nI_toInt (by omega)]
      omega
    refine lv_icmp_gt (tgt := 913) hx hb dL_law_24 (by decide) (fun hgt => ?_) (fun hgt => ?_)
    · refine lv_iconst (v := 1) hx hb dL_law_913 (by decide) ?_
      refine va_forget (fun q hq => hS.2.2 q hq) ?_
      refine W.widen (k := 600000) (n := 7302249) (by decide) (by decide) ?_
      exact lw_ret hx hb hr hlocks dL_law_914
    · have hlt : i + 9 ≤ L := by
        have := mt hcmp.mpr hgt
        omega
      have h0 : vp_in (nI i) L := vp_in_nI (by omega) (by omega)
      refine lv_aload_n hx hb dL_law_27 rfl (lv_at hl 0 rfl) ?_
      refine lv_iload_n hx hb dL_law_28 rfl (lv_at hl 3 rfl) ?_
      refine va_sld hx hb hX hbl hbA hS h0 dL_law_29 ?_
      refine lv_bipush (v := (31 : Int32)) hx hb dL_law_30 (by decide) ?_
      refine lv_iand hx hb dL_law_32 ?_
      -- the next int of the loop
      have go : ∀ (H : Heap) (locs : List Loc), va_S (fun q : Nat => s.heap.size ≤ q) s.heap H locs → IV D cI cJ cZ cR cN ad ac ar (fun q : Nat => s.heap.size ≤ q) H → W p l e room_1 s m #[Value.ref b] below meth c H locs 117 139158 (lw_Z below #[Value.ref b] s) (F0 m 907 ls []) := by
        intro H locs hS hIV
        refine lv_iinc (v := nI (i + 9)) (lv' := [(3, .int (nI (i + 9))), (0, .ref b), (1, .ref (ac 0)), (2, .ref (ar 0))]) hx hb dL_law_907 hl (k := 3) rfl (by rw [← nI_add]; rfl) (by decide) rfl (fun ls hl => ?_)
        refine lv_goto (tgt := 18) hx hb dL_law_910 (by decide) ?_
        exact ih (i + 9) (by omega) (by omega) H locs ls (lv_sub hl [1, 2, 3, 0] rfl) hS hIV
      refine IV_el hIV (fun hh ah w h rl st ki ro opn kyc gc sp a k t ov ps ik ks ko kl kq ra rk rt rov rp qd cq ccf cpr len crow cn cl sn sc sa sb Hh Aa rn fr to ne gi ti od fa ft br rfa rft gr gt pr kn scn pc ch sd il sr sT fe d1 d2 d3 rq rcf rcb rs rrow nN nX fD Cr g hP hD => ?_)
      obtain ⟨v, hv, hvv⟩ : ∃ v : Nat, v < 32 ∧ (xs (nI i).toNatClampNeg &&& (31 : Int32)) = nI v := pk_andE _ 5 (by decide)
      rw [hvv]
      by_cases h26 : v < 26
      · rcases (by omega : v = 0 ∨ v = 1 ∨ v = 2 ∨ v = 3 ∨ v = 4 ∨ v = 5 ∨ v = 6 ∨ v = 7 ∨ v = 8 ∨ v = 9 ∨ v = 10 ∨ v = 11 ∨ v = 12 ∨ v = 13 ∨ v = 14 ∨ v = 15 ∨ v = 16 ∨ v = 17 ∨ v = 18 ∨ v = 19 ∨ v = 20 ∨ v = 21 ∨ v = 22 ∨ v = 23 ∨ v = 24 ∨ v = 25) with rfl | rfl | rfl | rfl | rfl | rfl | rfl | rfl | rfl | rfl | rfl | rfl | rfl | rfl | rfl | rfl | rfl | rfl | rfl | rfl | rfl | rfl | rfl | rfl | rfl | rfl
        · refine lv_tableIn (off := 119) (tgt := 152) hx hb dL_law_33 (by decide) (by decide) (by decide) (by decide) ?_
          exact case_board hX hbl K hF hL hlt hl hS g hP hD go
        · refine lv_tableIn (off := 152) (tgt := 185) hx hb dL_law_33 (by decide) (by decide) (by decide) (by decide) ?_
          exact case_cell hX hbl K hF hL hlt hl hS g hP hD go
        · refine lv_tableIn (off := 195) (tgt := 228) hx hb dL_law_33 (by decide) (by decide) (by decide) (by decide) ?_
          exact case_foe hX hbl K hF hL hlt hl hS g hP hD go
        · refine lv_tableIn (off := 228) (tgt := 261) hx hb dL_law_33 (by decide) (by decide) (by decide) (by decide) ?_
          exact case_start hX hbl K hF hL hlt hl hS g hP hD go
        · refine lv_tableIn (off := 261) (tgt := 294) hx hb dL_law_33 (by decide) (by decide) (by decide) (by decide) ?_
          exact case_press hX hbl K hF hL hlt hl hS g hP hD go
        · refine lv_tableIn (off := 284) (tgt := 317) hx hb dL_law_33 (by decide) (by decide) (by decide) (by decide) ?_
          exact case_state hX hbl K hF hL hlt hl hS g hP hD go
        · refine lv_tableIn (off := 307) (tgt := 340) hx hb dL_law_33 (by decide) (by decide) (by decide) (by decide) ?_
          exact case_save hX hbl K hF hL hlt hl hS g hP hD go
        · refine lv_tableIn (off := 330) (tgt := 363) hx hb dL_law_33 (by decide) (by decide) (by decide) (by decide) ?_
          exact case_back hX hbl K hF hL hlt hl hS g hP hD go
        · refine lv_tableIn (off := 353) (tgt := 386) hx hb dL_law_33 (by decide) (by decide) (by decide) (by decide) ?_
          exact case_begin hX hbl K hF hL hlt hl hS g hP hD go
        · refine lv_tableIn (off := 364) (tgt := 397) hx hb dL_law_33 (by decide) (by decide) (by decide) (by decide) ?_
          exact case_least hX hbl K hF hL hlt hl hS g hP hD go
        · refine lv_tableIn (off := 377) (tgt := 410) hx hb dL_law_33 (by decide) (by decide) (by decide) (by decide) ?_
          exact case_best hX hbl K hF hL hlt hl hS g hP hD go
        · refine lv_tableIn (off := 400) (tgt := 433) hx hb dL_law_33 (by decide) (by decide) (by decide) (by decide) ?_
          exact case_claim hX hbl K hF hL hlt hl hS g hP hD go
        · refine lv_tableIn (off := 423) (tgt := 456) hx hb dL_law_33 (by decide) (by decide) (by decide) (by decide) ?_
          exact case_unclaim hX hbl K hF hL hlt hl hS g hP hD go
        · refine lv_tableIn (off := 434) (tgt := 467) hx hb dL_law_33 (by decide) (by decide) (by decide) (by decide) ?_
          exact case_prove hX hbl K hF hL hlt hl hS g hP hD go
        · refine lv_tableIn (off := 457) (tgt := 490) hx hb dL_law_33 (by decide) (by decide) (by decide) (by decide) ?_
          exact case_differs hX hbl K hF hL hlt hl hS g hP hD go
        · refine lv_tableIn (off := 470) (tgt := 503) hx hb dL_law_33 (by decide) (by decide) (by decide) (by decide) ?_
          exact case_split hX hbl K hF hL hlt hl hS g hP hD go
        · refine lv_tableIn (off := 523) (tgt := 556) hx hb dL_law_33 (by decide) (by decide) (by decide) (by decide) ?_
          exact case_unsplit hX hbl K hF hL hlt hl hS g hP hD go
        · refine lv_tableIn (off := 534) (tgt := 567) hx hb dL_law_33 (by decide) (by decide) (by decide) (by decide) ?_
          exact case_could hX hbl K hF hL hlt hl hS g hP hD go
        · refine lv_tableIn (off := 547) (tgt := 580) hx hb dL_law_33 (by decide) (by decide) (by decide) (by decide) ?_
          exact case_road hX hbl K hF hL hlt hl hS g hP hD go
        · refine lv_tableIn (off := 646) (tgt := 679) hx hb dL_law_33 (by decide) (by decide) (by decide) (by decide) ?_
          exact case_bar hX hbl K hF hL hlt hl hS g hP hD go
        · refine lv_tableIn (off := 695) (tgt := 728) hx hb dL_law_33 (by decide) (by decide) (by decide) (by decide) ?_
          exact case_goal hX hbl K hF hL hlt hl hS g hP hD go
        · refine lv_tableIn (off := 728) (tgt := 761) hx hb dL_law_33 (by decide) (by decide) (by decide) (by decide) ?_
          exact case_anew hX hbl K hF hL hlt hl hS g hP hD go
        · refine lv_tableIn (off := 751) (tgt := 784) hx hb dL_law_33 (by decide) (by decide) (by decide) (by decide) ?_
          exact case_sure hX hbl K hF hL hlt hl hS g hP hD go
        · refine lv_tableIn (off := 764) (tgt := 797) hx hb dL_law_33 (by decide) (by decide) (by decide) (by decide) ?_
          exact case_chance hX hbl K hF hL hlt hl hS g hP hD go
        · refine lv_tableIn (off := 808) (tgt := 841) hx hb dL_law_33 (by decide) (by decide) (by decide) (by decide) ?_
          exact case_choice hX hbl K hF hL hlt hl hS g hP hD go
        · refine lv_tableIn (off := 851) (tgt := 884) hx hb dL_law_33 (by decide) (by decide) (by decide) (by decide) ?_
          exact case_count hX hbl K hF hL hlt hl hS g hP hD go
      · refine lv_tableOut (tgt := 907) hx hb dL_law_33 (by rw [nI_toInt (by omega)]; omega) (by decide) ?_
        exact go H locs hS hIV
