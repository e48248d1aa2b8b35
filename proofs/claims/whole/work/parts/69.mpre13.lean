/-! the ways, row by row -/
theorem bi_shr {u v : Int} {a : Nat} (hu : u = ((a : Nat) : Int)) (ha : a < 2 ^ 31) (hv : 0 ≤ v ∧ v < 31) : iI u >>> (iI v &&& 31) = iI ((a / 2 ^ v.toNat : Nat) : Int) := by
  have key : ∀ k, k < 31 → ((nI k &&& 31).toBitVec.smod 32).toNat = k := by decide +kernel
  rw [hu, iI_nI2 hv.1, ← iI_nI, ← iI_nI]
  exact pk_shrN ha _ _ (key _ (by omega))
theorem bi_and3 (a : Nat) : iI ((a : Nat) : Int) &&& iI 3 = iI ((a % 4 : Nat) : Int) := by
  have h := bi_and a 3
  rw [show a &&& 3 = a % 4 from Nat.and_two_pow_sub_one_eq_mod a 2] at h
  exact h
def okW (R : Rv) (al : Nat → Int → Bool) (n r : Nat) : Nat → Int → Bool
  | 0, _ => true
  | k + 1, s => (!(decide (aftA R ((r / 4 ^ k % 4 : Nat) : Int) s = -1))) && (al (n - k) (aftA R ((r / 4 ^ k % 4 : Nat) : Int) s / 4) && okW R al n r k (aftA R ((r / 4 ^ k % 4 : Nat) : Int) s))
def cntW (P : Nat → Bool) : Nat → Nat
  | 0 => 0
  | r + 1 => cntW P r + (if P r = true then 1 else 0)
theorem okW_low {R : Rv} {al : Nat → Int → Bool} {n r r' : Nat} : ∀ (k : Nat) (s : Int), (∀ j, j < k → r / 4 ^ j % 4 = r' / 4 ^ j % 4) → okW R al n r k s = okW R al n r' k s
  | 0, _, _ => rfl
  | k + 1, s, h => by rw [okW, okW, h k (by omega), okW_low k _ (fun j hj => h j (by omega))]
theorem dig_low {a k j r : Nat} (hj : j < k) : (a * 4 ^ k + r) / 4 ^ j % 4 = r / 4 ^ j % 4 := by
  have hp : 0 < 4 ^ j := Nat.pow_pos (by decide)
  have e : a * 4 ^ k = 4 ^ j * (4 * (a * 4 ^ (k - j - 1))) := by
    rw [show k = j + (1 + (k - j - 1)) by omega, Nat.pow_add, Nat.pow_add, show j + (1 + (k - j - 1)) - j - 1 = k - j - 1 by omega]
    rw [Nat.pow_one, Nat.mul_left_comm, Nat.mul_left_comm a 4]
  rw [e, Nat.add_comm, Nat.add_mul_div_left _ _ hp]
  omega
theorem dig_top {a k r : Nat} (ha : a < 4) (hr : r < 4 ^ k) : (a * 4 ^ k + r) / 4 ^ k % 4 = a := by
  have hp : 0 < 4 ^ k := Nat.pow_pos (by decide)
  rw [Nat.mul_comm, Nat.add_comm, Nat.add_mul_div_left _ _ hp, Nat.div_eq_of_lt hr]
  omega
theorem okW_hi {R : Rv} {al : Nat → Int → Bool} {n a k r : Nat} {s : Int} (ha : a < 4) (hr : r < 4 ^ k) : okW R al n (a * 4 ^ k + r) (k + 1) s = ((!(decide (aftA R (a : Int) s = -1))) && (al (n - k) (aftA R (a : Int) s / 4) && okW R al n r k (aftA R (a : Int) s))) := by
  rw [okW, dig_top ha hr, okW_low (r' := r) k _ (fun j hj => dig_low hj)]
theorem cntW_add {P : Nat → Bool} {m : Nat} : ∀ d : Nat, cntW P (m + d) = cntW P m + cntW (fun r => P (m + r)) d
  | 0 => rfl
  | d + 1 => by
    show cntW P (m + d) + _ = cntW P m + (cntW (fun r => P (m + r)) d + _)
    rw [cntW_add d, Nat.add_assoc]
    rfl
theorem cntW_congr {P Q : Nat → Bool} : ∀ {d : Nat}, (∀ r, r < d → P r = Q r) → cntW P d = cntW Q d
  | 0, _ => rfl
  | d + 1, h => by rw [cntW, cntW, cntW_congr (fun r hr => h r (by omega)), h d (by omega)]
theorem cntW_no {P : Nat → Bool} : ∀ {d : Nat}, (∀ r, r < d → P r = false) → cntW P d = 0
  | 0, _ => rfl
  | d + 1, h => by rw [cntW, cntW_no (fun r hr => h r (by omega)), h d (by omega)]; rfl
theorem cntW_some {P : Nat → Bool} : ∀ {d : Nat}, 0 < cntW P d → ∃ r, r < d ∧ P r = true
  | 0, h => absurd h (by show ¬ 0 < 0; omega)
  | d + 1, h => by
    by_cases hq : P d = true
    · exact ⟨d, by omega, hq⟩
    · rw [cntW, if_neg hq] at h
      obtain ⟨r, h1, h2⟩ := cntW_some (d := d) h
      exact ⟨r, by omega, h2⟩
theorem cntW_pos {P : Nat → Bool} {r : Nat} : ∀ {d : Nat}, r < d → P r = true → 0 < cntW P d
  | 0, h, _ => absurd h (by omega)
  | d + 1, h, hp => by
    rw [cntW]
    by_cases hq : r = d
    · rw [← hq, if_pos hp]; omega
    · have := cntW_pos (d := d) (by omega) hp
      omega
/-- the count of the rows that can be, and all that was seen is so -/
def cnK (R : Rv) (al : Nat → Int → Bool) (n k : Nat) (s : Int) : Nat := cntW (fun r => okW R al n r k s) (4 ^ k)
theorem blk {R : Rv} {al : Nat → Int → Bool} {n a k : Nat} {s : Int} (ha : a < 4) : cntW (fun r => okW R al n (a * 4 ^ k + r) (k + 1) s) (4 ^ k) = if aftA R (a : Int) s = -1 then 0 else if al (n - k) (aftA R (a : Int) s / 4) = true then cnK R al n k (aftA R (a : Int) s) else 0 := by
  by_cases h1 : aftA R (a : Int) s = -1
  · rw [if_pos h1]
    refine cntW_no (fun r hr => ?_)
    rw [okW_hi ha hr, h1]
    rfl
  · rw [if_neg h1]
    by_cases h2 : al (n - k) (aftA R (a : Int) s / 4) = true
    · rw [if_pos h2]
      refine cntW_congr (fun r hr => ?_)
      rw [okW_hi ha hr, h2, decide_eq_false h1]
      rfl
    · rw [if_neg h2]
      refine cntW_no (fun r hr => ?_)
      rw [okW_hi ha hr, Bool.eq_false_iff.mpr h2, Bool.false_and, Bool.and_false]
theorem cnK_succ {R : Rv} {al : Nat → Int → Bool} {n k : Nat} {s : Int} : cnK R al n (k + 1) s = cntW (fun r => okW R al n (0 * 4 ^ k + r) (k + 1) s) (4 ^ k) + cntW (fun r => okW R al n (1 * 4 ^ k + r) (k + 1) s) (4 ^ k) + cntW (fun r => okW R al n (2 * 4 ^ k + r) (k + 1) s) (4 ^ k) + cntW (fun r => okW R al n (3 * 4 ^ k + r) (k + 1) s) (4 ^ k) := by
  unfold cnK
  rw [show 4 ^ (k + 1) = 4 ^ k + 4 ^ k + 4 ^ k + 4 ^ k by rw [Nat.pow_succ]; omega, cntW_add, cntW_add, cntW_add]
  rw [cntW_congr (P := fun r => okW R al n r (k + 1) s) (Q := fun r => okW R al n (0 * 4 ^ k + r) (k + 1) s) (fun r _ => by rw [Nat.zero_mul, Nat.zero_add])]
  rw [show 1 * 4 ^ k = 4 ^ k by omega, show 2 * 4 ^ k = 4 ^ k + 4 ^ k by omega, show 3 * 4 ^ k = 4 ^ k + 4 ^ k + 4 ^ k by omega]
theorem wayF_cnt {R : Rv} {al : Nat → Int → Bool} {n : Nat} : ∀ (k : Nat) (s : Int), wayF R al n k s = if al (n - k) (s / 4) = true then ((cnK R al n k s : Nat) : Int) else 0
  | 0, s => by
    rw [wayF, Nat.sub_zero]
    rfl
  | k + 1, s => by
    rw [wayF]
    by_cases h : al (n - (k + 1)) (s / 4) = true
    · rw [if_pos h, if_pos h, cnK_succ, blk (by decide), blk (by decide), blk (by decide), blk (by decide)]
      have key : ∀ a : Nat, (if aftA R (a : Int) s = -1 then 0 else wayF R al n k (aftA R (a : Int) s)) = (((if aftA R (a : Int) s = -1 then 0 else if al (n - k) (aftA R (a : Int) s / 4) = true then cnK R al n k (aftA R (a : Int) s) else 0 : Nat)) : Int) := by
        intro a
        by_cases h1 : aftA R (a : Int) s = -1
        · rw [if_pos h1, if_pos h1]; rfl
        · rw [if_neg h1, if_neg h1, wayF_cnt k]
          by_cases h2 : al (n - k) (aftA R (a : Int) s / 4) = true
          · rw [if_pos h2, if_pos h2]
          · rw [if_neg h2, if_neg h2]; rfl
      show 0 + (if aftA R ((0 : Nat) : Int) s = -1 then 0 else wayF R al n k (aftA R ((0 : Nat) : Int) s)) + (if aftA R ((1 : Nat) : Int) s = -1 then 0 else wayF R al n k (aftA R ((1 : Nat) : Int) s)) + (if aftA R ((2 : Nat) : Int) s = -1 then 0 else wayF R al n k (aftA R ((2 : Nat) : Int) s)) + (if aftA R ((3 : Nat) : Int) s = -1 then 0 else wayF R al n k (aftA R ((3 : Nat) : Int) s)) = _
      rw [key 0, key 1, key 2, key 3]
      omega
    · rw [if_neg h, if_neg h]
theorem ok_pos {R : Rv} {al : Nat → Int → Bool} {n k r : Nat} {s : Int} (ha : al (n - k) (s / 4) = true) (h : okW R al n r k s = true) : 0 < wayF R al n k s := by
  rw [wayF_cnt, if_pos ha]
  have hr : r % 4 ^ k < 4 ^ k := Nat.mod_lt _ (Nat.pow_pos (by decide))
  have he : okW R al n r k s = okW R al n (r % 4 ^ k) k s := by
    have h1 := okW_low (R := R) (al := al) (n := n) (r := r / 4 ^ k * 4 ^ k + r % 4 ^ k) (r' := r % 4 ^ k) k s (fun j hj => dig_low hj)
    rw [show r / 4 ^ k * 4 ^ k + r % 4 ^ k = r by rw [Nat.mul_comm]; exact Nat.div_add_mod r (4 ^ k)] at h1
    exact h1
  have := cntW_pos (P := fun r => okW R al n r k s) hr (by rw [← he]; exact h)
  unfold cnK
  omega
/-- the least of the rows goes the way of the first acts with ways -/
theorem least_go {R : Rv} {al : Nat → Int → Bool} {n k r0 : Nat} {s : Int} (hk : k < n) (ho : okW R al n r0 (k + 1) s = true) (hl : ∀ r, r < r0 % 4 ^ (k + 1) → okW R al n r (k + 1) s = false) : fstW R (wayF R al n k) s = ((r0 / 4 ^ k % 4 : Nat) : Int) ∧ okW R al n r0 k (aftA R ((r0 / 4 ^ k % 4 : Nat) : Int) s) = true ∧ (∀ r, r < r0 % 4 ^ k → okW R al n r k (aftA R ((r0 / 4 ^ k % 4 : Nat) : Int) s) = false) := by
  have hp : 0 < 4 ^ k := Nat.pow_pos (by decide)
  have hd : r0 / 4 ^ k % 4 < 4 := Nat.mod_lt _ (by decide)
  have hm : r0 % 4 ^ (k + 1) = (r0 / 4 ^ k % 4) * 4 ^ k + r0 % 4 ^ k := by
    rw [Nat.pow_succ, Nat.mod_mul, Nat.mul_comm (4 ^ k), Nat.add_comm]
  have hlow : r0 % 4 ^ k < 4 ^ k := Nat.mod_lt _ hp
  rw [okW, Bool.and_eq_true, Bool.and_eq_true] at ho
  obtain ⟨o1, o2, o3⟩ := ho
  have o1b : aftA R ((r0 / 4 ^ k % 4 : Nat) : Int) s ≠ -1 := fun q => by rw [decide_eq_true q] at o1; exact absurd o1 (by decide)
  refine ⟨?_, o3, fun r hr => ?_⟩
  · refine fstW_at (by omega) (by omega) (fun a h0 h1 h2 => ?_) ⟨o1b, ok_pos o2 o3⟩
    obtain ⟨g1, g2⟩ := h2
    rw [wayF_cnt] at g2
    by_cases hq : al (n - k) (aftA R a s / 4) = true
    · rw [if_pos hq] at g2
      obtain ⟨r', k1, k2⟩ := cntW_some (show 0 < cntW (fun r => okW R al n r k (aftA R a s)) (4 ^ k) by show 0 < cnK R al n k (aftA R a s); omega)
      have hlt : a.toNat * 4 ^ k + r' < r0 % 4 ^ (k + 1) := by
        rw [hm]
        have h3 : (a.toNat + 1) * 4 ^ k ≤ (r0 / 4 ^ k % 4) * 4 ^ k := Nat.mul_le_mul_right _ (by omega)
        rw [Nat.add_mul] at h3
        omega
      have h4 := hl _ hlt
      rw [okW_hi (by omega) k1, castN h0, hq, decide_eq_false g1] at h4
      have h5 : okW R al n r' k (aftA R a s) = false := h4
      rw [show okW R al n r' k (aftA R a s) = true from k2] at h5
      exact absurd h5 (by decide)
    · rw [if_neg hq] at g2
      exact absurd g2 (by omega)
  · have hlt : (r0 / 4 ^ k % 4) * 4 ^ k + r < r0 % 4 ^ (k + 1) := by omega
    have h4 := hl _ hlt
    rw [okW_hi hd (by omega), o2, decide_eq_false o1b] at h4
    exact h4
theorem least_at {R : Rv} {al : Nat → Int → Bool} {n r0 : Nat} {p : Int} (hr : r0 < 4 ^ n) (ho : okW R al n r0 n p = true) (hl : ∀ r, r < r0 → okW R al n r n p = false) : ∀ x : Nat, x ≤ n → okW R al n r0 (n - x) (sptW R al n p x) = true ∧ (∀ r, r < r0 % 4 ^ (n - x) → okW R al n r (n - x) (sptW R al n p x) = false)
  | 0, _ => ⟨ho, fun r h => hl r (by rw [Nat.sub_zero, Nat.mod_eq_of_lt hr] at h; exact h)⟩
  | x + 1, hx => by
    obtain ⟨i1, i2⟩ := least_at hr ho hl x (by omega)
    rw [show n - x = (n - x - 1) + 1 by omega] at i1 i2
    obtain ⟨f1, f2, f3⟩ := least_go (by omega) i1 i2
    have e : sptW R al n p (x + 1) = aftA R ((r0 / 4 ^ (n - x - 1) % 4 : Nat) : Int) (sptW R al n p x) := by rw [sptW, f1]
    rw [e, show n - (x + 1) = n - x - 1 by omega]
    exact ⟨f2, f3⟩
theorem least_dig {R : Rv} {al : Nat → Int → Bool} {n r0 : Nat} {p : Int} (hr : r0 < 4 ^ n) (ho : okW R al n r0 n p = true) (hl : ∀ r, r < r0 → okW R al n r n p = false) {x : Nat} (hx : x < n) : fstW R (wayF R al n (n - x - 1)) (sptW R al n p x) = ((r0 / 4 ^ (n - x - 1) % 4 : Nat) : Int) := by
  obtain ⟨i1, i2⟩ := least_at hr ho hl x (by omega)
  rw [show n - x = (n - x - 1) + 1 by omega] at i1 i2
  exact (least_go (by omega) i1 i2).1
theorem alM_iff {mi : Nat → Int} {ma : Nat → Nat → Int} (h8 : mi 22 ≤ 8) {t : Nat} {cc : Int} : alA (vM mi ma) t cc = true ↔ ∀ k : Nat, (k : Int) < mi 22 → ma 12 k = (t : Int) → ma 13 k = cc := by
  unfold alA
  rw [List.all_eq_true]
  have e1 : aRc (vM mi ma) = mi 22 := rfl
  have e2 : ∀ k : Nat, (k : Int) < mi 22 → aRt (vM mi ma) k = ma 12 k := fun k hk => nrm_in hk
  have e3 : ∀ k : Nat, (k : Int) < mi 22 → aRl (vM mi ma) k = ma 13 k := fun k hk => nrm_in hk
  constructor
  · intro h k h1 h2
    have := h k (List.mem_range.mpr (by omega))
    rw [e1, e2 k h1, e3 k h1] at this
    simpa [h1, h2] using this
  · intro h k hk
    rw [e1]
    by_cases h1 : (k : Int) < mi 22
    · rw [e2 k h1, e3 k h1]
      by_cases h2 : ma 12 k = (t : Int)
      · have := h k h1 h2
        simp [h1, h2, this]
      · simp [h2]
    · simp [h1]
theorem pow4_2 {n : Int} (h : 0 ≤ n) : 2 ^ (2 * n).toNat = 4 ^ n.toNat := by
  rw [show (2 * n).toNat = 2 * n.toNat by omega, Nat.pow_mul]
theorem pow4_leM {k : Nat} (h : k ≤ 7) : 4 ^ k ≤ 16384 := Nat.pow_le_pow_right (by decide : 4 > 0) h
theorem okW_step {R : Rv} {al : Nat → Int → Bool} {n r k : Nat} {s act : Int} (ha : ((r / 4 ^ k % 4 : Nat) : Int) = act) : okW R al n r (k + 1) s = ((!(decide (aftA R act s = -1))) && (al (n - k) (aftA R act s / 4) && okW R al n r k (aftA R act s))) := by
  rw [okW, ha]
def fstOk (P : Nat → Bool) (u : Nat) (fs : Int) : Prop := (fs = -9 ∧ ∀ r : Nat, r < u → P r = false) ∨ (∃ r0 : Nat, fs = ((r0 : Nat) : Int) ∧ r0 < u ∧ P r0 = true ∧ ∀ r : Nat, r < r0 → P r = false)
