/-! the reference: what is seen of it -/
def lanM (ma : Nat → Nat → Int) : Nat → Int := fun j => if j < 4 then (if ma 14 j < 0 then -1 else ma 15 j) else 0
def lenM (ma : Nat → Nat → Int) : Nat → Int := fun j => if j < 4 then (if ma 14 j < 0 then 0 else ma 14 j) else 0
def numM (ma : Nat → Nat → Int) : Nat → Nat → Int := fun j => if j < 4 then nrm (lenM ma j) (fun i => ma 16 (60 * j + i)) else fun _ => 0
def vM (mi : Nat → Int) (ma : Nat → Nat → Int) : AV := (mi 29, mi 0, rvM mi ma, mi 2, lanM ma, lenM ma, numM ma, mi 22, nrm (mi 22) (ma 12), nrm (mi 22) (ma 13))
def MRv (mi : Nat → Int) (ma : Nat → Nat → Int) : Prop := (0 ≤ mi 1 ∧ mi 1 ≤ 16) ∧ (0 ≤ mi 2 ∧ mi 2 ≤ 3) ∧ (∀ k : Nat, 0 ≤ ma 1 k ∧ ma 1 k ≤ 2) ∧ (∀ k : Nat, 0 ≤ ma 2 k ∧ ma 2 k ≤ 9) ∧ (∀ k : Nat, ma 3 k = 0 ∨ ma 3 k = 1) ∧ ∀ k : Nat, ma 4 k = 0 ∨ ma 4 k = 1
def MOk (mi : Nat → Int) (ma : Nat → Nat → Int) : Prop :=
  MRv mi ma ∧ (mi 1 = 0 ∨ 2 ≤ mi 1) ∧ ((∀ k : Nat, 0 ≤ ma 5 k ∧ ma 5 k ≤ 2) ∧ (∀ k : Nat, 0 ≤ ma 6 k ∧ ma 6 k ≤ 9) ∧ (∀ k : Nat, ma 7 k = 0 ∨ ma 7 k = 1) ∧ ∀ k : Nat, ma 8 k = 0 ∨ ma 8 k = 1) ∧ (∀ j : Nat, (-1 ≤ ma 14 j ∧ ma 14 j ≤ 60) ∧ (0 ≤ ma 15 j ∧ ma 15 j ≤ 2)) ∧ (∀ k : Nat, -2147483648 ≤ ma 16 k ∧ ma 16 k < 2147483648) ∧ (∀ k : Nat, -2147483648 ≤ ma 17 k ∧ ma 17 k < 2147483648) ∧ ((0 ≤ mi 22 ∧ mi 22 ≤ 8) ∧ (∀ k : Nat, -2147483648 ≤ ma 12 k ∧ ma 12 k < 2147483648) ∧ ∀ k : Nat, -2147483648 ≤ ma 13 k ∧ ma 13 k < 2147483648) ∧ (0 ≤ mi 0 ∧ mi 0 ≤ 4)
theorem rvM_eq {mi yi : Nat → Int} {ma ya : Nat → Nat → Int} (h0 : yi 1 = mi 1) (h1 : ya 1 = ma 1) (h2 : ya 2 = ma 2) (h3 : ya 3 = ma 3) (h4 : ya 4 = ma 4) : rvM yi ya = rvM mi ma := by
  unfold rvM
  rw [h0, h1, h2, h3, h4]
theorem MRv_eq {mi yi : Nat → Int} {ma ya : Nat → Nat → Int} (h0 : yi 1 = mi 1) (hp : yi 2 = mi 2) (h1 : ya 1 = ma 1) (h2 : ya 2 = ma 2) (h3 : ya 3 = ma 3) (h4 : ya 4 = ma 4) (h : MRv mi ma) : MRv yi ya := by
  unfold MRv
  rw [h0, hp, h1, h2, h3, h4]
  exact h
theorem MRv_M {mi : Nat → Int} {ma : Nat → Nat → Int} (h : MRv mi ma) : RvM (rvM mi ma) := ⟨h.1.2, fun c => nrm_rng h.2.2.2.1 c⟩
theorem vM_fr {mi yi : Nat → Int} {ma ya : Nat → Nat → Int} (h1 : yi 1 = mi 1) (h2 : yi 2 = mi 2) (h22 : yi 22 = mi 22) (ha : ∀ k, (1 ≤ k ∧ k ≤ 4) ∨ (12 ≤ k ∧ k ≤ 16) → ya k = ma k) : vM yi ya = sFa (sTr (vM mi ma) (yi 29)) (yi 0) := by
  have e14 := ha 14 (by omega)
  have e15 := ha 15 (by omega)
  have e16 := ha 16 (by omega)
  refine av_ext rfl rfl (rvM_eq h1 (ha 1 (by omega)) (ha 2 (by omega)) (ha 3 (by omega)) (ha 4 (by omega))) h2 ?_ ?_ ?_ h22 ?_ ?_
  · show lanM ya = lanM ma
    unfold lanM
    rw [e14, e15]
  · show lenM ya = lenM ma
    unfold lenM
    rw [e14]
  · show numM ya = numM ma
    unfold numM lenM
    rw [e14, e16]
  · show nrm (yi 22) (ya 12) = nrm (mi 22) (ma 12)
    rw [h22, ha 12 (by omega)]
  · show nrm (yi 22) (ya 13) = nrm (mi 22) (ma 13)
    rw [h22, ha 13 (by omega)]
theorem MOk_fr {mi yi : Nat → Int} {ma ya : Nat → Nat → Int} (h : MOk mi ma) (h1 : yi 1 = mi 1) (h2 : yi 2 = mi 2) (h22 : yi 22 = mi 22) (ha : ∀ k, (1 ≤ k ∧ k ≤ 8) ∨ (12 ≤ k ∧ k ≤ 17) → ya k = ma k) (hf : 0 ≤ yi 0 ∧ yi 0 ≤ 4) : MOk yi ya := by
  obtain ⟨g1, g2, g3, g4, g5, g6, g7, g8⟩ := h
  refine ⟨MRv_eq h1 h2 (ha 1 (by omega)) (ha 2 (by omega)) (ha 3 (by omega)) (ha 4 (by omega)) g1, by rw [h1]; exact g2, ?_, ?_, ?_, ?_, ?_, hf⟩
  · rw [ha 5 (by omega), ha 6 (by omega), ha 7 (by omega), ha 8 (by omega)]; exact g3
  · rw [ha 14 (by omega), ha 15 (by omega)]; exact g4
  · rw [ha 16 (by omega)]; exact g5
  · rw [ha 17 (by omega)]; exact g6
  · rw [h22, ha 12 (by omega), ha 13 (by omega)]; exact g7
theorem vM_fa {mi : Nat → Int} {ma : Nat → Nat → Int} {v : Int} : vM (va_up mi 0 v) ma = sFa (vM mi ma) v := by
  rw [vM_fr (up_n (by decide)) (up_n (by decide)) (up_n (by decide)) (fun _ _ => rfl), up_s, up_n (by decide)]
  rfl
theorem MOk_fa {mi : Nat → Int} {ma : Nat → Nat → Int} {v : Int} (h : MOk mi ma) (hv : 0 ≤ v ∧ v ≤ 4) : MOk (va_up mi 0 v) ma :=
  MOk_fr h (up_n (by decide)) (up_n (by decide)) (up_n (by decide)) (fun _ _ => rfl) (by rw [up_s]; exact hv)
theorem vM_tr {mi : Nat → Int} {ma : Nat → Nat → Int} {v : Int} : vM (va_up mi 29 v) ma = sTr (vM mi ma) v := by
  rw [vM_fr (up_n (by decide)) (up_n (by decide)) (up_n (by decide)) (fun _ _ => rfl), up_s, up_n (by decide)]
  rfl
theorem MOk_tr {mi : Nat → Int} {ma : Nat → Nat → Int} {v : Int} (h : MOk mi ma) : MOk (va_up mi 29 v) ma :=
  MOk_fr h (up_n (by decide)) (up_n (by decide)) (up_n (by decide)) (fun _ _ => rfl) (by rw [up_n (by decide)]; exact h.2.2.2.2.2.2.2)
theorem bi_or0 (a : Nat) : iI (a : Int) ||| iI 0 = iI (a : Int) := by
  have h := bi_or a 0
  rw [Nat.or_zero] at h
  exact h
theorem run_can {R : Rv} {g : Nat → Int} {p0 : Int} {t : Nat} {act x y : Int} (h9 : (runS R g p0 t).2 = -9) (hn : 1 ≤ rN R) (ha : g t = act) (hx : x = (runS R g p0 t).1 / 4) (hy : y = (runS R g p0 t).1 % 4) (hr : 0 ≤ (runS R g p0 t).1) (hc : canB R act x y = true) : runS R g p0 (t + 1) = (4 * celA (rN R) x (pacA act y) + pacA act y, -9) := by
  have e1 : aftA R (g t) (runS R g p0 t).1 = 4 * celA (rN R) x (pacA act y) + pacA act y := by
    unfold aftA
    rw [ha, ← hx, ← hy, if_pos hc]
  have h1 := pacA_rng act y (by omega)
  have h2 : celA (rN R) x (pacA act y) = min (x + pacA act y) (rN R - 1) := rfl
  rw [runS_go h9 (by omega), e1]
theorem run_cant {R : Rv} {g : Nat → Int} {p0 : Int} {t : Nat} {act x y : Int} (h9 : (runS R g p0 t).2 = -9) (ha : g t = act) (hx : x = (runS R g p0 t).1 / 4) (hy : y = (runS R g p0 t).1 % 4) (hc : ¬ canB R act x y = true) : runS R g p0 (t + 1) = ((runS R g p0 t).1, (t : Int)) := by
  have e1 : aftA R (g t) (runS R g p0 t).1 = -1 := by
    unfold aftA
    rw [ha, ← hx, ← hy, if_neg hc]
  exact runS_no h9 e1
