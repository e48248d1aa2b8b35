/-! numbers: an int, a long, told by a whole number -/
def iI (z : Int) : Int32 := Int32.ofInt z
def lI (z : Int) : Int64 := Int64.ofInt z
theorem iI_toInt {z : Int} (h : -2147483648 ≤ z ∧ z < 2147483648) : (iI z).toInt = z := Int32.toInt_ofInt_of_le (by omega) (by omega)
theorem lI_toInt {z : Int} (h : -9223372036854775808 ≤ z ∧ z < 9223372036854775808) : (lI z).toInt = z := Int64.toInt_ofInt_of_le (by omega) (by omega)
theorem iI_self (x : Int32) : iI x.toInt = x := Int32.ofInt_toInt x
theorem lI_self (x : Int64) : lI x.toInt = x := Int64.ofInt_toInt x
theorem iI_rng (x : Int32) : -2147483648 ≤ x.toInt ∧ x.toInt < 2147483648 := ⟨by have := Int32.le_toInt x; omega, by have := Int32.toInt_lt x; omega⟩
theorem lI_rng (x : Int64) : -9223372036854775808 ≤ x.toInt ∧ x.toInt < 9223372036854775808 := ⟨by have := Int64.le_toInt x; omega, by have := Int64.toInt_lt x; omega⟩
theorem iI_ex (x : Int32) : ∃ z : Int, (-2147483648 ≤ z ∧ z < 2147483648) ∧ x = iI z := ⟨x.toInt, iI_rng x, (iI_self x).symm⟩
theorem iI_inj {a b : Int} (ha : -2147483648 ≤ a ∧ a < 2147483648) (hb : -2147483648 ≤ b ∧ b < 2147483648) : iI a = iI b ↔ a = b := ⟨fun h => by have := congrArg Int32.toInt h; rwa [iI_toInt ha, iI_toInt hb] at this, fun h => by rw [h]⟩
theorem lI_inj {a b : Int} (ha : -9223372036854775808 ≤ a ∧ a < 9223372036854775808) (hb : -9223372036854775808 ≤ b ∧ b < 9223372036854775808) : lI a = lI b ↔ a = b := ⟨fun h => by have := congrArg Int64.toInt h; rwa [lI_toInt ha, lI_toInt hb] at this, fun h => by rw [h]⟩
theorem iI_lt {a b : Int} (ha : -2147483648 ≤ a ∧ a < 2147483648) (hb : -2147483648 ≤ b ∧ b < 2147483648) : iI a < iI b ↔ a < b := by rw [Int32.lt_iff_toInt_lt, iI_toInt ha, iI_toInt hb]
theorem iI_le {a b : Int} (ha : -2147483648 ≤ a ∧ a < 2147483648) (hb : -2147483648 ≤ b ∧ b < 2147483648) : iI a ≤ iI b ↔ a ≤ b := by rw [Int32.le_iff_toInt_le, iI_toInt ha, iI_toInt hb]
theorem lI_lt {a b : Int} (ha : -9223372036854775808 ≤ a ∧ a < 9223372036854775808) (hb : -9223372036854775808 ≤ b ∧ b < 9223372036854775808) : lI a < lI b ↔ a < b := by rw [Int64.lt_iff_toInt_lt, lI_toInt ha, lI_toInt hb]
theorem lI_le {a b : Int} (ha : -9223372036854775808 ≤ a ∧ a < 9223372036854775808) (hb : -9223372036854775808 ≤ b ∧ b < 9223372036854775808) : lI a ≤ lI b ↔ a ≤ b := by rw [Int64.le_iff_toInt_le, lI_toInt ha, lI_toInt hb]
theorem iI_0 : (0 : Int32) = iI 0 := by decide
theorem lI_0 : (0 : Int64) = lI 0 := by decide
theorem iI_eq0 {a : Int} (ha : -2147483648 ≤ a ∧ a < 2147483648) : iI a = 0 ↔ a = 0 := by rw [iI_0]; exact iI_inj ha (by omega)
theorem lI_eq0 {a : Int} (ha : -9223372036854775808 ≤ a ∧ a < 9223372036854775808) : lI a = 0 ↔ a = 0 := by rw [lI_0]; exact lI_inj ha (by omega)
theorem iI_lt0 {a : Int} (ha : -2147483648 ≤ a ∧ a < 2147483648) : iI a < 0 ↔ a < 0 := by rw [iI_0]; exact iI_lt ha (by omega)
theorem iI_ge0 {a : Int} (ha : -2147483648 ≤ a ∧ a < 2147483648) : 0 ≤ iI a ↔ 0 ≤ a := by rw [iI_0]; exact iI_le (by omega) ha
theorem iI_gt0 {a : Int} (ha : -2147483648 ≤ a ∧ a < 2147483648) : 0 < iI a ↔ 0 < a := by rw [iI_0]; exact iI_lt (by omega) ha
theorem iI_le0 {a : Int} (ha : -2147483648 ≤ a ∧ a < 2147483648) : iI a ≤ 0 ↔ a ≤ 0 := by rw [iI_0]; exact iI_le ha (by omega)
theorem iI_add (a b : Int) : iI a + iI b = iI (a + b) := (Int32.ofInt_add a b).symm
theorem iI_sub (a b : Int) : iI a - iI b = iI (a - b) := (Int32.ofInt_sub a b).symm
theorem iI_mul (a b : Int) : iI a * iI b = iI (a * b) := (Int32.ofInt_mul a b).symm
theorem lI_add (a b : Int) : lI a + lI b = lI (a + b) := (Int64.ofInt_add a b).symm
theorem lI_sub (a b : Int) : lI a - lI b = lI (a - b) := (Int64.ofInt_sub a b).symm
theorem lI_mul (a b : Int) : lI a * lI b = lI (a * b) := (Int64.ofInt_mul a b).symm
theorem bm32 {z : Int} (h : -2147483648 ≤ z ∧ z < 2147483648) : z.bmod (2 ^ 32) = z := by
  show z.bmod 4294967296 = z
  exact Int.bmod_eq_of_le (by omega) (by omega)
theorem bm64 {z : Int} (h : -9223372036854775808 ≤ z ∧ z < 9223372036854775808) : z.bmod (2 ^ 64) = z := by
  show z.bmod 18446744073709551616 = z
  exact Int.bmod_eq_of_le (by omega) (by omega)
theorem iI_div {a b : Int} (ha : 0 ≤ a ∧ a < 2147483648) (hb : 0 < b ∧ b < 2147483648) : iI a / iI b = iI (a / b) := by
  apply Int32.toInt_inj.mp
  have h1 : (iI a).toInt = a := iI_toInt (by omega)
  have h2 : (iI b).toInt = b := iI_toInt (by omega)
  have h3 : 0 ≤ a / b := Int.ediv_nonneg ha.1 (by omega)
  have h4 : a / b ≤ a := Int.ediv_le_self b ha.1
  rw [Int32.toInt_div, h1, h2, Int.tdiv_eq_ediv_of_nonneg ha.1, iI_toInt (by omega), bm32 (by omega)]
theorem iI_rem {a b : Int} (ha : 0 ≤ a ∧ a < 2147483648) (hb : 0 < b ∧ b < 2147483648) : iI a - iI a / iI b * iI b = iI (a % b) := by
  rw [iI_div ha hb, iI_mul, iI_sub, Int.emod_def, Int.mul_comm]
theorem lI_div {a b : Int} (ha : 0 ≤ a ∧ a < 9223372036854775808) (hb : 0 < b ∧ b < 9223372036854775808) : lI a / lI b = lI (a / b) := by
  apply Int64.toInt_inj.mp
  have h1 : (lI a).toInt = a := lI_toInt (by omega)
  have h2 : (lI b).toInt = b := lI_toInt (by omega)
  have h3 : 0 ≤ a / b := Int.ediv_nonneg ha.1 (by omega)
  have h4 : a / b ≤ a := Int.ediv_le_self b ha.1
  rw [Int64.toInt_div, h1, h2, Int.tdiv_eq_ediv_of_nonneg ha.1, lI_toInt (by omega), bm64 (by omega)]
theorem lI_rem {a b : Int} (ha : 0 ≤ a ∧ a < 9223372036854775808) (hb : 0 < b ∧ b < 9223372036854775808) : lI a - lI a / lI b * lI b = lI (a % b) := by
  rw [lI_div ha hb, lI_mul, lI_sub, Int.emod_def, Int.mul_comm]
theorem iI_l {z : Int} (h : -2147483648 ≤ z ∧ z < 2147483648) : (iI z).toInt64 = lI z := by
  apply Int64.toInt_inj.mp
  rw [Int32.toInt_toInt64, iI_toInt h, lI_toInt (by omega)]
theorem iI_in {z : Int} {N : Nat} (h : -2147483648 ≤ z ∧ z < 2147483648) (h0 : 0 ≤ z) (hN : z < N) : vp_in (iI z) N := vp_in_iff.mpr (by rw [iI_toInt h]; exact ⟨h0, hN⟩)
theorem iI_nat {z : Int} (h : -2147483648 ≤ z ∧ z < 2147483648) : (iI z).toNatClampNeg = z.toNat := by
  show (iI z).toInt.toNat = z.toNat
  rw [iI_toInt h]
theorem iI_nI (n : Nat) : nI n = iI n := (Int32.ofInt_eq_ofNat).symm
def cut8 (z : Int) : Int := (iI z).toInt8.toInt32.toInt
def cut16 (z : Int) : Int := (iI z).toInt16.toInt32.toInt
theorem iI_cut8 (z : Int) : (iI z).toInt8.toInt32 = iI (cut8 z) := (iI_self _).symm
theorem iI_cut16 (z : Int) : (iI z).toInt16.toInt32 = iI (cut16 z) := (iI_self _).symm
theorem cut8_rng (z : Int) : -2147483648 ≤ cut8 z ∧ cut8 z < 2147483648 := iI_rng _
theorem cut16_rng (z : Int) : -2147483648 ≤ cut16 z ∧ cut16 z < 2147483648 := iI_rng _
theorem lg_cmp_lI {a b : Int} (ha : -9223372036854775808 ≤ a ∧ a < 9223372036854775808) (hb : -9223372036854775808 ≤ b ∧ b < 9223372036854775808) : ∃ r : Int, ((a < b ∧ r = -1) ∨ (a = b ∧ r = 0) ∨ (b < a ∧ r = 1)) ∧ lg_cmp (lI a) (lI b) = iI r := by
  unfold lg_cmp
  rcases Int.lt_trichotomy a b with h | h | h
  · refine ⟨-1, Or.inl ⟨h, rfl⟩, ?_⟩
    rw [if_neg (fun q => by have := (lI_lt hb ha).mp q; omega), if_neg (fun q => by have := (lI_inj ha hb).mp q; omega)]
    decide
  · refine ⟨0, Or.inr (Or.inl ⟨h, rfl⟩), ?_⟩
    rw [if_neg (fun q => by have := (lI_lt hb ha).mp q; omega), if_pos (by rw [h])]
    decide
  · refine ⟨1, Or.inr (Or.inr ⟨h, rfl⟩), ?_⟩
    rw [if_pos ((lI_lt hb ha).mpr h)]
    decide
theorem upd_iI (g : Nat → Int) (k : Nat) (v : Int) : upd (fun i => iI (g i)) k (iI v) = fun i => iI (va_up g k v i) := by
  funext i
  unfold upd va_up
  by_cases h : i = k
  · rw [if_pos h, if_pos h]
  · rw [if_neg h, if_neg h]
theorem updL_lI (g : Nat → Int) (k : Nat) (v : Int) : vp_updL (fun i => lI (g i)) k (lI v) = fun i => lI (va_up g k v i) := by
  funext i
  unfold vp_updL va_up
  by_cases h : i = k
  · rw [if_pos h, if_pos h]
  · rw [if_neg h, if_neg h]
theorem nar_b0 : vp_nar .boolean (iI 0) = iI 0 := by decide
theorem nar_b1 : vp_nar .boolean (iI 1) = iI 1 := by decide
theorem nar_bz {z : Int} (h : z = 0 ∨ z = 1) : vp_nar .boolean (iI z) = iI z := h.elim (fun e => by rw [e]; exact nar_b0) (fun e => by rw [e]; exact nar_b1)
theorem up_s {α : Type} {f : Nat → α} {k : Nat} {v : α} : va_up f k v k = v := by unfold va_up; rw [if_pos rfl]
theorem up_n {α : Type} {f : Nat → α} {k j : Nat} {v : α} (h : j ≠ k) : va_up f k v j = f j := by unfold va_up; rw [if_neg h]
theorem up_id {α : Type} {f : Nat → α} {k : Nat} : va_up f k (f k) = f := by
  funext i
  unfold va_up
  by_cases h : i = k
  · rw [if_pos h, h]
  · rw [if_neg h]
