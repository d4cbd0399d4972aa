theorem l_0 : (0 : Int32) = nI 0 := rfl
theorem l_1 : (1 : Int32) = nI 1 := rfl
theorem l_2 : (2 : Int32) = nI 2 := rfl
theorem l_3 : (3 : Int32) = nI 3 := rfl
theorem l_4 : (4 : Int32) = nI 4 := rfl
theorem l_5 : (5 : Int32) = nI 5 := rfl
theorem l_6 : (6 : Int32) = nI 6 := rfl
theorem l_7 : (7 : Int32) = nI 7 := rfl
theorem l_8 : (8 : Int32) = nI 8 := rfl
theorem l_9 : (9 : Int32) = nI 9 := rfl
theorem l_15 : (15 : Int32) = nI 15 := rfl
theorem l_16 : (16 : Int32) = nI 16 := rfl
theorem l_31 : (31 : Int32) = nI 31 := rfl
theorem l_39 : (39 : Int32) = nI 39 := rfl
theorem l_40 : (40 : Int32) = nI 40 := rfl
theorem l_48 : (48 : Int32) = nI 48 := rfl
theorem l_63 : (63 : Int32) = nI 63 := rfl
theorem l_64 : (64 : Int32) = nI 64 := rfl
theorem l_100 : (100 : Int32) = nI 100 := rfl
theorem l_159 : (159 : Int32) = nI 159 := rfl
theorem l_160 : (160 : Int32) = nI 160 := rfl
theorem l_200 : (200 : Int32) = nI 200 := rfl
theorem l_300 : (300 : Int32) = nI 300 := rfl
theorem l_400 : (400 : Int32) = nI 400 := rfl
theorem l_499 : (499 : Int32) = nI 499 := rfl
theorem l_500 : (500 : Int32) = nI 500 := rfl
theorem l_512 : (512 : Int32) = nI 512 := rfl
theorem l_640 : (640 : Int32) = nI 640 := rfl
theorem l_2000 : (2000 : Int32) = nI 2000 := rfl
theorem l_3072 : (3072 : Int32) = nI 3072 := rfl
theorem l_3100 : (3100 : Int32) = nI 3100 := rfl
theorem l_48160 : (48160 : Int32) = nI 48160 := rfl
theorem l_1073741824 : (1073741824 : Int32) = nI 1073741824 := rfl
theorem n_sub {a b : Nat} (h : b ≤ a) : nI a - nI b = nI (a - b) := pk_sub h
theorem n_div {a d : Nat} (ha : a < 2 ^ 31) (h0 : 0 < d) (hd : d < 2 ^ 31) : nI a / nI d = nI (a / d) := pk_div ha h0 hd
theorem n_m1 {a : Nat} (h : 1 ≤ a) : nI a + -nI 1 = nI (a - 1) := sb_m1 h
theorem n_m1a {a : Nat} (h : a = 0) : nI a + -nI 1 = -nI 1 := by subst h; rfl
theorem n_neg (a : Nat) (h : a < 2 ^ 31) : (-nI a).toInt = -(a : Int) := sb_negT h
theorem n_meq {a b : Nat} (h : a < 2 ^ 31) (h2 : b < 2 ^ 31) (h3 : 0 < b) : (-nI b = nI a) = False := by
  refine eq_false (fun e => ?_)
  have h1 := congrArg Int32.toInt e
  rw [n_neg b h2, nI_toInt h] at h1
  omega
theorem n_eqm {a b : Nat} (h : a < 2 ^ 31) (h2 : b < 2 ^ 31) (h3 : 0 < b) : (nI a = -nI b) = False := by
  refine eq_false (fun e => ?_)
  have h1 := congrArg Int32.toInt e
  rw [n_neg b h2, nI_toInt h] at h1
  omega
theorem n_ltm {a b : Nat} (h : a < 2 ^ 31) (h2 : b < 2 ^ 31) : (nI a < -nI b) = False := by
  refine eq_false (fun e => ?_)
  rw [fa_lt, n_neg b h2, nI_toInt h] at e
  omega
theorem n_mlt {a b : Nat} (h : a < 2 ^ 31) (h2 : b < 2 ^ 31) (h3 : 0 < b) : (-nI b < nI a) = True := by
  refine eq_true ?_
  rw [fa_lt, n_neg b h2, nI_toInt h]
  omega
theorem n_lem {a b : Nat} (h : a < 2 ^ 31) (h2 : b < 2 ^ 31) (h3 : 0 < b) : (nI a ≤ -nI b) = False := by
  refine eq_false (fun e => ?_)
  rw [fa_le, n_neg b h2, nI_toInt h] at e
  omega
theorem n_mle {a b : Nat} (h : a < 2 ^ 31) (h2 : b < 2 ^ 31) : (-nI b ≤ nI a) = True := by
  refine eq_true ?_
  rw [fa_le, n_neg b h2, nI_toInt h]
  omega
theorem n_mlt0 {b : Nat} (h2 : b < 2 ^ 31) (h3 : 0 < b) : (-nI b < nI 0) = True := n_mlt (by decide) h2 h3
theorem n_mm {a b : Nat} (h : a < 2 ^ 31) (h2 : b < 2 ^ 31) : (-nI a = -nI b) = (a = b) := by
  refine propext ⟨fun e => ?_, fun e => by rw [e]⟩
  have h1 := congrArg Int32.toInt e
  rw [n_neg b h2, n_neg a h] at h1
  omega
def nu (f : Nat → Nat) (k v : Nat) : Nat → Nat := fun j => if j = k then v else f j
theorem nu_s (f : Nat → Nat) (k v : Nat) : nu f k v k = v := if_pos rfl
theorem nu_n (f : Nat → Nat) {k j : Nat} (v : Nat) (h : j ≠ k) : nu f k v j = f j := if_neg h
theorem n_upd (f : Nat → Nat) (k v : Nat) : upd (fun j => nI (f j)) k (nI v) = fun j => nI (nu f k v j) := by
  funext j
  show (if j = k then nI v else nI (f j)) = nI (if j = k then v else f j)
  split <;> rfl
theorem n_fmod {a b : Nat} (ha : a < 2 ^ 31) (hb : b < 2 ^ 31) (h0 : 0 < b) : m_J9_floorMod_7cf53 (nI a) (nI b) = some (nI (a % b)) := by
  have hx : a ^^^ b < 2 ^ 31 := Nat.xor_lt_two_pow ha hb
  unfold m_J9_floorMod_7cf53
  rw [if_neg (nI_ne0 h0 hb), fb_xorI, if_pos (nI_pos' hx), pk_rem ha h0 hb]

