/-! ===== lN n to 2^64: shifts, and, or, masks, one bit ===== -/
theorem wb_tb (n : Nat) : (lN n).toBitVec = BitVec.ofNat 64 n := rfl
theorem wb_inj {a b : Int64} (h : a.toBitVec = b.toBitVec) : a = b := Int64.toBitVec_inj.mp h
theorem wb_tn {n : Nat} (h : n < 2 ^ 64) : (lN n).toBitVec.toNat = n := by rw [wb_tb, BitVec.toNat_ofNat, Nat.mod_eq_of_lt h]
theorem wb_of (x : Int64) : ∃ n, n < 2 ^ 64 ∧ x = lN n := ⟨x.toBitVec.toNat, x.toBitVec.isLt, wb_inj (by rw [wb_tb]; simp)⟩
theorem wb_of32 (x : Int32) : ∃ n, n < 2 ^ 32 ∧ x = nI n := ⟨x.toBitVec.toNat, x.toBitVec.isLt, Int32.toBitVec_inj.mp (by show _ = BitVec.ofNat 32 _; simp)⟩
theorem wb_c : ∀ k, k < 64 → ((nI k).toInt64 &&& 63) = lN k := by decide +kernel
theorem wb_cu : ∀ k, k < 64 → ((nI k).toInt64.toUInt64 &&& Int64.toUInt64 63) = UInt64.ofNat k := by decide +kernel
theorem wb_sm : ∀ k, k < 64 → (BitVec.ofNat 64 k).smod 64 = BitVec.ofNat 64 k := by decide +kernel
theorem wb_pw {a b : Nat} (h : a ≤ b) : 2 ^ b = 2 ^ a * 2 ^ (b - a) := by rw [← Nat.pow_add]; congr 1; omega
theorem wb_lt2 {a b : Nat} (h : a < b) : 2 ^ a < 2 ^ b := Nat.pow_lt_pow_right (by decide) h
theorem wb_mod (n : Nat) : lN n = lN (n % 2 ^ 64) := wb_inj (by rw [wb_tb, wb_tb]; apply BitVec.eq_of_toNat_eq; rw [BitVec.toNat_ofNat, BitVec.toNat_ofNat, Nat.mod_mod])
theorem wb_shr {n k : Nat} (hn : n < 2 ^ 64) (hk : k < 64) : ((lN n).toUInt64 >>> ((nI k).toInt64.toUInt64 &&& Int64.toUInt64 63)).toInt64 = lN (n / 2 ^ k) := by
  rw [wb_cu k hk]
  apply wb_inj
  apply BitVec.eq_of_toNat_eq
  show ((lN n).toUInt64 >>> UInt64.ofNat k).toNat = (BitVec.ofNat 64 _).toNat
  have h1 : (UInt64.ofNat k).toNat = k := by
    show (BitVec.ofNat 64 k).toNat = k
    rw [BitVec.toNat_ofNat, Nat.mod_eq_of_lt (by omega)]
  have h2 : (lN n).toUInt64.toNat = n := wb_tn hn
  rw [UInt64.toNat_shiftRight, h1, h2, Nat.mod_eq_of_lt hk, Nat.shiftRight_eq_div_pow, BitVec.toNat_ofNat, Nat.mod_eq_of_lt (Nat.lt_of_le_of_lt (Nat.div_le_self _ _) hn)]
theorem wb_shl (n : Nat) {k : Nat} (hk : k < 64) : lN n <<< ((nI k).toInt64 &&& 63) = lN (n * 2 ^ k) := by
  rw [wb_c k hk]
  apply wb_inj
  rw [Int64.toBitVec_shiftLeft, wb_tb, wb_tb, wb_tb, wb_sm k hk]
  apply BitVec.eq_of_toNat_eq
  rw [BitVec.shiftLeft_eq', BitVec.toNat_shiftLeft, BitVec.toNat_ofNat, BitVec.toNat_ofNat, BitVec.toNat_ofNat, Nat.mod_eq_of_lt (show k < 2 ^ 64 by omega), Nat.shiftLeft_eq, Nat.mul_mod, Nat.mod_mod, ← Nat.mul_mod]
theorem wb_and {a b : Nat} (ha : a < 2 ^ 64) (hb : b < 2 ^ 64) : lN a &&& lN b = lN (a &&& b) := by
  apply wb_inj
  rw [Int64.toBitVec_and, wb_tb, wb_tb, wb_tb]
  apply BitVec.eq_of_toNat_eq
  rw [BitVec.toNat_and, BitVec.toNat_ofNat, BitVec.toNat_ofNat, BitVec.toNat_ofNat, Nat.mod_eq_of_lt ha, Nat.mod_eq_of_lt hb, Nat.mod_eq_of_lt (Nat.and_lt_two_pow _ hb)]
theorem wb_or {a b : Nat} (ha : a < 2 ^ 64) (hb : b < 2 ^ 64) : lN a ||| lN b = lN (a ||| b) := by
  apply wb_inj
  rw [Int64.toBitVec_or, wb_tb, wb_tb, wb_tb]
  apply BitVec.eq_of_toNat_eq
  rw [BitVec.toNat_or, BitVec.toNat_ofNat, BitVec.toNat_ofNat, BitVec.toNat_ofNat, Nat.mod_eq_of_lt ha, Nat.mod_eq_of_lt hb, Nat.mod_eq_of_lt (Nat.or_lt_two_pow ha hb)]
theorem wb_mask {n k : Nat} (hn : n < 2 ^ 64) (hk : k < 64) : lN n &&& lN (2 ^ k - 1) = lN (n % 2 ^ k) := by
  rw [wb_and hn (by have := wb_lt2 hk; omega), Nat.and_two_pow_sub_one_eq_mod]
theorem wb_a1 {n : Nat} (hn : n < 2 ^ 64) : lN n &&& 1 = lN (n % 2) := wb_mask (k := 1) hn (by decide)
theorem wb_bit {n k : Nat} (hn : n < 2 ^ 64) (hk : k < 64) : ((lN n).toUInt64 >>> ((nI k).toInt64.toUInt64 &&& Int64.toUInt64 63)).toInt64 &&& 1 = lN (n / 2 ^ k % 2) := by
  rw [wb_shr hn hk, wb_a1 (Nat.lt_of_le_of_lt (Nat.div_le_self _ _) hn)]
theorem wb_xor {q k : Nat} (hk : k < 63) (h : 2 ^ k ≤ q) (h2 : q < 2 ^ (k + 1)) : lN q ^^^ lN (2 ^ k) = lN (q - 2 ^ k) := by
  obtain ⟨r, rfl⟩ : ∃ r, q = 2 ^ k + r := ⟨q - 2 ^ k, by omega⟩
  have hr : r < 2 ^ k := by rw [Nat.pow_succ] at h2; omega
  have hx : (2 ^ k + r) ^^^ 2 ^ k = r := by
    apply Nat.eq_of_testBit_eq
    intro i
    rw [Nat.testBit_xor, Nat.testBit_two_pow]
    rcases Nat.lt_trichotomy i k with h | h | h
    · rw [Nat.testBit_two_pow_add_gt h]
      simp [show ¬ k = i by omega]
    · subst h
      rw [Nat.testBit_two_pow_add_eq]
      simp
    · have a1 : 2 ^ (k + 1) ≤ 2 ^ i := Nat.pow_le_pow_right (by decide) h
      rw [Nat.testBit_lt_two_pow (show 2 ^ k + r < 2 ^ i by omega), Nat.testBit_lt_two_pow (show r < 2 ^ i by omega)]
      simp [show ¬ k = i by omega]
  have b1 := wb_lt2 (show k + 1 < 64 by omega)
  have b2 := wb_lt2 (show k < 64 by omega)
  apply wb_inj
  rw [Int64.toBitVec_xor, wb_tb, wb_tb, wb_tb]
  apply BitVec.eq_of_toNat_eq
  rw [BitVec.toNat_xor, BitVec.toNat_ofNat, BitVec.toNat_ofNat, BitVec.toNat_ofNat, Nat.mod_eq_of_lt (by omega : 2 ^ k + r < 2 ^ 64), Nat.mod_eq_of_lt b2, hx, Nat.add_sub_cancel_left, Nat.mod_eq_of_lt (by omega)]
theorem lI_lN (n : Nat) : lI (n : Int) = lN n := Int64.ofInt_eq_ofNat
theorem iI_nI2 {u : Int} (h : 0 ≤ u) : iI u = nI u.toNat := by
  rw [iI_nI, Int.toNat_of_nonneg h]
theorem bl_ushr {m : Nat} {u : Int} (hm : m < 2 ^ 64) (hu : 0 ≤ u ∧ u < 64) : ((lI (m : Int)).toUInt64 >>> ((iI u).toInt64.toUInt64 &&& Int64.toUInt64 63)).toInt64 = lI ((m / 2 ^ u.toNat : Nat) : Int) := by
  rw [lI_lN, lI_lN, iI_nI2 hu.1]
  exact wb_shr hm (by omega)
theorem bl_shl (m : Nat) {u : Int} (hu : 0 ≤ u ∧ u < 64) : lI (m : Int) <<< ((iI u).toInt64 &&& 63) = lI ((m * 2 ^ u.toNat : Nat) : Int) := by
  rw [lI_lN, lI_lN, iI_nI2 hu.1]
  exact wb_shl m (by omega)
theorem bl_shl1 {u : Int} (hu : 0 ≤ u ∧ u < 64) : lI 1 <<< ((iI u).toInt64 &&& 63) = lI ((2 ^ u.toNat : Nat) : Int) := by
  have h := bl_shl 1 hu
  rw [Nat.one_mul] at h
  exact h
theorem bl_and {a b : Nat} (ha : a < 2 ^ 64) (hb : b < 2 ^ 64) : lI (a : Int) &&& lI (b : Int) = lI ((a &&& b : Nat) : Int) := by
  rw [lI_lN, lI_lN, lI_lN]
  exact wb_and ha hb
theorem bl_or {a b : Nat} (ha : a < 2 ^ 64) (hb : b < 2 ^ 64) : lI (a : Int) ||| lI (b : Int) = lI ((a ||| b : Nat) : Int) := by
  rw [lI_lN, lI_lN, lI_lN]
  exact wb_or ha hb
theorem bl_and1 {a : Nat} (ha : a < 2 ^ 64) : lI (a : Int) &&& lI 1 = lI ((a % 2 : Nat) : Int) := by
  rw [lI_lN, lI_lN]
  exact wb_a1 ha
theorem tb_div (m k : Nat) : m / 2 ^ k % 2 = 0 ↔ m.testBit k = false := by
  rw [Nat.testBit_eq_decide_div_mod_eq]
  have := Nat.mod_two_eq_zero_or_one (m / 2 ^ k)
  rw [decide_eq_false_iff_not]
  omega
theorem lN_eq0 {m : Nat} (h : m < 2 ^ 64) : lN m = 0 ↔ m = 0 := by
  constructor
  · intro e
    have e1 : (lN m).toBitVec.toNat = (0 : Int64).toBitVec.toNat := by rw [e]
    rw [wb_tn h] at e1
    exact e1
  · intro e
    rw [e]
    decide
section ZB
variable {p : Program} {l : Launch} {e : Env} {R : Room} {s : State} {m : MethodId} {args : Array Value} {below : List Frame} {meth : Method} {c : Code} {Q : State → Prop} {cells slots : Nat} {cc : ByteArray} {nL : Nat} {own : String} {Ts : List Cond} {D : va_G} {cl : List vw_C} {tys : List (ClassId × FieldType)} {n : Nat} {q : Nat → Nat} {A : Nat → Prop} {ret : Option FieldType}
variable {f : Nat → va_E} {pc : Nat} {lv : List (Nat × Value)} {st : List Value}
theorem z_lcmp0 {mm : Nat} (hdg : decode cc pc = .ok (.lcmp, 1)) (hm : mm < 2 ^ 64) (kk : ∀ r : Int, ((mm = 0 ∧ r = 0) ∨ (mm ≠ 0 ∧ (r = 1 ∨ r = -1))) → Z p l e R s m args below meth c Q cells slots cc nL own Ts D cl tys n q A ret f (pc + 1) lv (.int (iI r) :: st)) : Z p l e R s m args below meth c Q cells slots cc nL own Ts D cl tys n q A ret f pc lv (.long (lI 0) :: .long (lI (mm : Int)) :: st) := by
  intro C H locs ls hP hS hl
  obtain ⟨hx, hb, hml, hown, hts, hK, hq, hA, hN, hr, hlk, hNW⟩ := id C
  refine W.lcmp hx hb hdg ?_
  have h0 : lI ((mm : Nat) : Int) = 0 ↔ mm = 0 := by rw [lI_lN]; exact lN_eq0 hm
  have hz : lI 0 = (0 : Int64) := lI_0.symm
  unfold lg_cmp
  by_cases h1 : lI ((mm : Nat) : Int) > lI 0
  · rw [if_pos h1]
    refine kk 1 (Or.inr ⟨fun e => ?_, Or.inl rfl⟩) C H locs ls hP hS hl
    rw [h0.mpr e, hz] at h1
    exact absurd h1 (by decide)
  · rw [if_neg h1]
    by_cases h2 : lI ((mm : Nat) : Int) = lI 0
    · rw [if_pos h2]
      exact kk 0 (Or.inl ⟨h0.mp (h2.trans hz), rfl⟩) C H locs ls hP hS hl
    · rw [if_neg h2]
      exact kk (-1) (Or.inr ⟨fun e => h2 ((h0.mpr e).trans hz.symm), Or.inr rfl⟩) C H locs ls hP hS hl
end ZB
theorem bi_shl {u : Int} (hu : 0 ≤ u ∧ u < 31) : iI 1 <<< (iI u &&& 31) = iI ((2 ^ u.toNat : Nat) : Int) := by
  have h1 : iI 1 = nI 1 := rfl
  have h31 : (31 : Int32) = nI 31 := rfl
  have key : ∀ k, k < 31 → nI 1 <<< (nI k &&& 31) = nI (2 ^ k) := by decide +kernel
  rw [h1, iI_nI2 hu.1, key _ (by omega), iI_nI]
theorem bi_or (a b : Nat) : iI (a : Int) ||| iI (b : Int) = iI ((a ||| b : Nat) : Int) := by
  rw [← iI_nI, ← iI_nI, ← iI_nI]
  exact Int32.toBitVec_inj.mp (by
    show BitVec.ofNat 32 a ||| BitVec.ofNat 32 b = BitVec.ofNat 32 (a ||| b)
    apply BitVec.eq_of_getLsbD_eq
    intro i hi
    simp [BitVec.getLsbD_ofNat, hi])
theorem bi_and (a b : Nat) : iI (a : Int) &&& iI (b : Int) = iI ((a &&& b : Nat) : Int) := by
  rw [← iI_nI, ← iI_nI, ← iI_nI]
  exact Int32.toBitVec_inj.mp (by
    show BitVec.ofNat 32 a &&& BitVec.ofNat 32 b = BitVec.ofNat 32 (a &&& b)
    apply BitVec.eq_of_getLsbD_eq
    intro i hi
    simp [BitVec.getLsbD_ofNat, hi])
