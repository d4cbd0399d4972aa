/-! sets of cells: the bits of a long -/
def bL (x : Int64) (c : Nat) : Prop := x.toBitVec.getLsbD c = true
theorem bL_0 (c : Nat) : ¬ bL 0 c := by
  unfold bL
  have e : (0 : Int64).toBitVec = 0#64 := rfl
  rw [e, BitVec.getLsbD_zero]; decide
theorem bL_or (x y : Int64) (c : Nat) : bL (x ||| y) c ↔ (bL x c ∨ bL y c) := by
  unfold bL
  rw [Int64.toBitVec_or, BitVec.getLsbD_or, Bool.or_eq_true]
theorem bL_and (x y : Int64) (c : Nat) : bL (x &&& y) c ↔ (bL x c ∧ bL y c) := by
  unfold bL
  rw [Int64.toBitVec_and, BitVec.getLsbD_and, Bool.and_eq_true]
theorem bL_not (x : Int64) {c : Nat} (hc : c < 64) : bL (x ^^^ (-1)) c ↔ ¬ bL x c := by
  unfold bL
  have e : (-1 : Int64).toBitVec = BitVec.allOnes 64 := by decide
  rw [Int64.toBitVec_xor, BitVec.getLsbD_xor, e, BitVec.getLsbD_allOnes]
  simp [hc]
theorem bL_pow : ∀ k, k < 64 → ((1 : Int64) <<< ((nI k).toInt64 &&& 63)).toBitVec = BitVec.twoPow 64 k := by decide +kernel
theorem bL_one {k : Nat} (hk : k < 64) (c : Nat) : bL ((1 : Int64) <<< ((nI k).toInt64 &&& 63)) c ↔ c = k := by
  unfold bL
  rw [bL_pow k hk, BitVec.getLsbD_twoPow]
  simp only [hk, decide_true, Bool.true_and, decide_eq_true_eq]
  exact ⟨fun e => e.symm, fun e => e.symm⟩
theorem bL_big {x : Int64} {c : Nat} (h : 64 ≤ c) : ¬ bL x c := by
  unfold bL
  rw [BitVec.getLsbD_of_ge _ _ h]; decide
theorem bL_ext {x y : Int64} (h : ∀ c, c < 64 → (bL x c ↔ bL y c)) : x = y := by
  have e : x.toBitVec = y.toBitVec := by
    apply BitVec.eq_of_getLsbD_eq
    intro i hi
    have h1 := h i hi
    unfold bL at h1
    cases hx : x.toBitVec.getLsbD i <;> cases hy : y.toBitVec.getLsbD i <;> simp [hx, hy] at h1 ⊢
  exact Int64.toBitVec_inj.mp e
theorem bL_z {x : Int64} : x = 0 ↔ ∀ c, c < 64 → ¬ bL x c := by
  constructor
  · intro e c _; rw [e]; exact bL_0 c
  · intro h
    exact bL_ext (fun c hc => ⟨fun a => absurd a (h c hc), fun a => absurd a (bL_0 c)⟩)
theorem bL_shl8 (x : Int64) (c : Nat) (hc : c < 64) : bL (x <<< ((8 : Int32).toInt64 &&& 63)) c ↔ (8 ≤ c ∧ bL x (c - 8)) := by
  unfold bL
  have e : (x <<< ((8 : Int32).toInt64 &&& 63)).toBitVec = x.toBitVec <<< 8 := by
    rw [Int64.toBitVec_shiftLeft]
    have e2 : (((8 : Int32).toInt64 &&& 63).toBitVec.smod 64) = 8#64 := by decide
    rw [e2]; rfl
  rw [e, BitVec.getLsbD_shiftLeft]
  simp only [hc, decide_true, Bool.true_and, Bool.and_eq_true, Bool.not_eq_true', decide_eq_false_iff_not, Nat.not_lt]
theorem bL_shl1 (x : Int64) (c : Nat) (hc : c < 64) : bL (x <<< ((1 : Int32).toInt64 &&& 63)) c ↔ (1 ≤ c ∧ bL x (c - 1)) := by
  unfold bL
  have e : (x <<< ((1 : Int32).toInt64 &&& 63)).toBitVec = x.toBitVec <<< 1 := by
    rw [Int64.toBitVec_shiftLeft]
    have e2 : (((1 : Int32).toInt64 &&& 63).toBitVec.smod 64) = 1#64 := by decide
    rw [e2]; rfl
  rw [e, BitVec.getLsbD_shiftLeft]
  simp only [hc, decide_true, Bool.true_and, Bool.and_eq_true, Bool.not_eq_true', decide_eq_false_iff_not, Nat.not_lt]
theorem bL_shr8 (x : Int64) (c : Nat) : bL ((x.toUInt64 >>> ((8 : Int32).toInt64.toUInt64 &&& Int64.toUInt64 63)).toInt64) c ↔ bL x (8 + c) := by
  unfold bL
  have e : ((x.toUInt64 >>> ((8 : Int32).toInt64.toUInt64 &&& Int64.toUInt64 63)).toInt64).toBitVec = x.toBitVec >>> 8 := by
    show (x.toUInt64 >>> ((8 : Int32).toInt64.toUInt64 &&& Int64.toUInt64 63)).toBitVec = _
    rw [UInt64.toBitVec_shiftRight]
    have e2 : (((8 : Int32).toInt64.toUInt64 &&& Int64.toUInt64 63).toBitVec % 64) = 8#64 := by decide
    rw [e2]; rfl
  rw [e, BitVec.getLsbD_ushiftRight]
theorem bL_shr1 (x : Int64) (c : Nat) : bL ((x.toUInt64 >>> ((1 : Int32).toInt64.toUInt64 &&& Int64.toUInt64 63)).toInt64) c ↔ bL x (1 + c) := by
  unfold bL
  have e : ((x.toUInt64 >>> ((1 : Int32).toInt64.toUInt64 &&& Int64.toUInt64 63)).toInt64).toBitVec = x.toBitVec >>> 1 := by
    show (x.toUInt64 >>> ((1 : Int32).toInt64.toUInt64 &&& Int64.toUInt64 63)).toBitVec = _
    rw [UInt64.toBitVec_shiftRight]
    have e2 : (((1 : Int32).toInt64.toUInt64 &&& Int64.toUInt64 63).toBitVec % 64) = 1#64 := by decide
    rw [e2]; rfl
  rw [e, BitVec.getLsbD_ushiftRight]
theorem bL_notlast : ∀ c, c < 64 → (((9187201950435737471 : Int64).toBitVec.getLsbD c = true) ↔ c % 8 ≠ 7) := by decide +kernel
theorem bL_notfirst : ∀ c, c < 64 → (((-72340172838076674 : Int64).toBitVec.getLsbD c = true) ↔ c % 8 ≠ 0) := by decide +kernel
theorem with_on {x : Int64} {k : Nat} (hk : k < 64) {o : Int32} (ho : o ≠ 0) (c : Nat) : bL (m_X0_with x (nI k) o) c ↔ (bL x c ∨ c = k) := by
  unfold m_X0_with
  rw [if_neg ho, bL_or, bL_one hk]
theorem with_off {x : Int64} {k : Nat} (hk : k < 64) {c : Nat} (hc : c < 64) : bL (m_X0_with x (nI k) 0) c ↔ (bL x c ∧ c ≠ k) := by
  unfold m_X0_with
  rw [if_pos rfl, bL_and, bL_not _ hc, bL_one hk]
def b01 (b : Bool) : Int32 := if b then 1 else 0
/-- a bit set or taken away as the condition says -/
theorem with_if {x : Int64} {k : Nat} (hk : k < 64) {c : Nat} (hc : c < 64) (b : Bool) : bL (m_X0_with x (nI k) (b01 b)) c ↔ (if c = k then b = true else bL x c) := by
  cases b
  · have e0 : b01 false = 0 := rfl
    rw [e0, with_off hk hc]
    by_cases e : c = k
    · rw [if_pos e]; exact ⟨fun h => absurd e h.2, fun h => absurd h Bool.false_ne_true⟩
    · rw [if_neg e]; exact ⟨fun h => h.1, fun h => ⟨h, e⟩⟩
  · have e0 : b01 true = 1 := rfl
    rw [e0, with_on hk (by decide)]
    by_cases e : c = k
    · rw [if_pos e]; exact ⟨fun _ => rfl, fun _ => .inr e⟩
    · rw [if_neg e]; exact ⟨fun h => h.resolve_right e, .inl⟩
theorem b01_t {b : Bool} (h : b = true) : b01 b = 1 := by rw [h]; rfl
theorem b01_f {b : Bool} (h : b = false) : b01 b = 0 := by rw [h]; rfl
