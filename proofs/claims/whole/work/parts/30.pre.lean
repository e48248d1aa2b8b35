/-! what the calls of the class stand on -/
theorem runS_congr {R : Rv} {g h : Nat → Int} {p0 : Int} : ∀ {t : Nat}, (∀ k, k < t → g k = h k) → runS R g p0 t = runS R h p0 t
  | 0, _ => rfl
  | t + 1, H => by rw [runS, runS, runS_congr (fun k hk => H k (by omega)), H t (by omega)]
theorem runS_lt {R : Rv} {g : Nat → Int} {p0 : Int} (hn : rN R ≤ 16) (hp : 0 ≤ p0 ∧ p0 < 4 * rN R) : ∀ t : Nat, 0 ≤ (runS R g p0 t).1 ∧ (runS R g p0 t).1 < 4 * rN R
  | 0 => hp
  | t + 1 => by
    have ih := runS_lt (g := g) hn hp t
    rw [runS]
    split
    · exact ih
    · split
      · exact ih
      · rename_i h1 h2
        have := aftA_rng (act := g t) hn ih.1
        show 0 ≤ aftA R (g t) (runS R g p0 t).1 ∧ aftA R (g t) (runS R g p0 t).1 < 4 * rN R
        omega
theorem runS_wr {R : Rv} {g : Nat → Int} {p0 : Int} : ∀ t : Nat, (runS R g p0 t).2 = -9 ∨ (0 ≤ (runS R g p0 t).2 ∧ (runS R g p0 t).2 < (t : Int))
  | 0 => Or.inl rfl
  | t + 1 => by
    have ih := runS_wr (R := R) (g := g) (p0 := p0) t
    rw [runS]
    split
    · omega
    · split
      · exact Or.inr (by show (0 : Int) ≤ (t : Int) ∧ (t : Int) < ((t + 1 : Nat) : Int); omega)
      · exact Or.inl rfl
theorem lanX_in {xi : Nat → Int} {j : Nat} (h : j < 4) : lanX xi j = xi (2 + j) := if_pos h
theorem lenX_in {xi : Nat → Int} {j : Nat} (h : j < 4) : lenX xi j = xi (6 + j) := if_pos h
theorem numX_in {xi : Nat → Int} {xa : Nat → Nat → Int} {j : Nat} (h : j < 4) : numX xi xa j = nrm (xi (6 + j)) (xa j) := if_pos h
theorem vlan {w : Nat} {xi : Nat → Int} {xa : Nat → Nat → Int} {j : Nat} (h : j < 4) : aLan (vX w xi xa) j = xi (2 + j) := lanX_in h
theorem vlen {w : Nat} {xi : Nat → Int} {xa : Nat → Nat → Int} {j : Nat} (h : j < 4) : aLen (vX w xi xa) j = xi (6 + j) := lenX_in h
theorem vnum {w : Nat} {xi : Nat → Int} {xa : Nat → Nat → Int} {j k : Nat} (h : j < 4) (hk : (k : Int) < xi (6 + j)) : aNum (vX w xi xa) j k = xa j k := by
  show numX xi xa j k = xa j k
  rw [numX_in h, nrm_in hk]
/-- the journey behind a plan that was read -/
def JF (A : AV) (j : Nat) (i nn : Int) (xi : Nat → Int) (xa : Nat → Nat → Int) : Prop :=
  xi 15 = nn ∧ xi 16 = (runA A j i nn).2 ∧ ((runA A j i nn).2 = -9 → xi 17 = (runA A j i nn).1 ∧ ∀ k : Nat, (k : Int) < nn → xa 13 k = cellA A j i k) ∧ ∀ k : Nat, (k : Int) < nn → xa 12 k = actG A j i k
theorem chkPlan_iff {A : AV} {s l i n : Int} {p q : Prop} [Decidable p] [Decidable q] (h : p ↔ q) : chkPlan A s l i n p = chkPlan A s l i n q := by
  unfold chkPlan
  by_cases hp : p
  · simp only [hp, h.mp hp]
  · have hq : ¬ q := fun x => hp (h.mpr x)
    simp only [hp, hq]
theorem vX_pace {w : Nat} (hw : w < 2) {xi : Nat → Int} {xa : Nat → Nat → Int} {v : Int} : vX w (va_up xi (12 + w) v) xa = sP (vX w xi xa) v := by
  refine av_ext (up_n (by omega)) (up_n (by omega)) (rvX_eq (up_n (by omega)) rfl rfl rfl rfl) up_s ?_ ?_ ?_ (up_n (by omega)) ?_ ?_
  · show lanX _ = lanX xi
    funext j
    unfold lanX
    by_cases hj : j < 4
    · rw [if_pos hj, if_pos hj, up_n (by omega)]
    · rw [if_neg hj, if_neg hj]
  · show lenX _ = lenX xi
    funext j
    unfold lenX
    by_cases hj : j < 4
    · rw [if_pos hj, if_pos hj, up_n (by omega)]
    · rw [if_neg hj, if_neg hj]
  · show numX _ xa = numX xi xa
    funext j
    unfold numX
    by_cases hj : j < 4
    · rw [if_pos hj, if_pos hj, up_n (by omega)]
    · rw [if_neg hj, if_neg hj]
  · show nrm (va_up xi (12 + w) v 18) (xa 14) = nrm (xi 18) (xa 14)
    rw [up_n (by omega)]
  · show nrm (va_up xi (12 + w) v 18) (xa 15) = nrm (xi 18) (xa 15)
    rw [up_n (by omega)]
theorem XOk_pace {w d : Nat} {xi : Nat → Int} {xa : Nat → Nat → Int} (h : XOk w d xi xa) {v : Int} (hv : 0 ≤ v ∧ v ≤ 3) : XOk w d (va_up xi (12 + w) v) xa := by
  obtain ⟨h1, h2, h3, h4, h5, h6, h7, h8, h9⟩ := h
  have hw := h1.1
  refine ⟨h1, fun j q => ⟨RowOk_eq (up_n (by omega)) (up_n (by omega)) rfl (h2 j q).1, ?_⟩, fun b q => ?_, ?_, ⟨?_, ?_⟩, ?_, ?_, ?_, ?_⟩
  · rw [up_n (by omega), up_n (by omega)]; exact (h2 j q).2
  · obtain ⟨g1, g2, g3⟩ := h3 b q
    refine ⟨by rw [up_n (by omega)]; exact g1, ?_, g3⟩
    by_cases hb : b = w
    · rw [hb, up_s]; exact hv
    · rw [up_n (by omega)]; exact g2
  · rw [up_n (by omega)]; exact h4
  · unfold RdgOk; rw [up_n (by omega)]; exact h5.1
  · rw [up_n (by omega)]; exact h5.2
  · rw [up_n (by omega)]; exact h6
  · rw [up_n (by omega), rvX_eq (xi := xi) (xa := xa) (up_n (by omega)) rfl rfl rfl rfl]; exact h7
  · rw [up_n (by omega)]; exact h8
  · rw [up_n (by omega)]; exact h9
theorem nrm_up {n : Int} {g : Nat → Int} {k : Nat} {v : Int} (h : (k : Int) < n) : nrm n (va_up g k v) = va_up (nrm n g) k v := by
  funext j
  unfold nrm va_up
  by_cases hj : j = k
  · rw [if_pos hj, if_pos hj, if_pos (by rw [hj]; exact h)]
  · rw [if_neg hj, if_neg hj]
theorem vX_brid {w : Nat} (hw : w < 2) {xi : Nat → Int} {xa : Nat → Nat → Int} {k : Nat} {v : Int} (hk : (k : Int) < xi (10 + w)) : vX w (va_up xi 19 0) (va_up xa (10 + w) (va_up (xa (10 + w)) k v)) = sR (vX w xi xa) (setB (aR (vX w xi xa)) k v) := by
  refine av_ext rfl rfl ?_ (show va_up xi 19 0 (12 + w) = xi (12 + w) from up_n (by omega)) ?_ ?_ ?_ rfl ?_ ?_
  · show rvX _ _ w = setB (rvX xi xa w) k v
    unfold rvX setB
    rw [up_n (by omega), up_n (by omega), up_n (by omega), up_n (by omega), up_s, nrm_up hk]
  · show lanX _ = lanX xi
    funext j
    unfold lanX
    by_cases hj : j < 4
    · rw [if_pos hj, if_pos hj, up_n (by omega)]
    · rw [if_neg hj, if_neg hj]
  · show lenX _ = lenX xi
    funext j
    unfold lenX
    by_cases hj : j < 4
    · rw [if_pos hj, if_pos hj, up_n (by omega)]
    · rw [if_neg hj, if_neg hj]
  · show numX _ _ = numX xi xa
    funext j
    unfold numX
    by_cases hj : j < 4
    · rw [if_pos hj, if_pos hj, up_n (by omega), up_n (by omega)]
    · rw [if_neg hj, if_neg hj]
  · show nrm (va_up xi 19 0 18) (va_up xa (10 + w) _ 14) = nrm (xi 18) (xa 14)
    rw [up_n (by omega), up_n (by omega)]
  · show nrm (va_up xi 19 0 18) (va_up xa (10 + w) _ 15) = nrm (xi 18) (xa 15)
    rw [up_n (by omega), up_n (by omega)]
theorem XOk_brid {w d : Nat} {xi : Nat → Int} {xa : Nat → Nat → Int} (h : XOk w d xi xa) {k : Nat} {v : Int} (hv : v = 0 ∨ v = 1) : XOk w d (va_up xi 19 0) (va_up xa (10 + w) (va_up (xa (10 + w)) k v)) := by
  obtain ⟨h1, h2, h3, h4, h5, h6, h7, h8, h9⟩ := h
  have hw := h1.1
  refine ⟨h1, fun j q => ⟨RowOk_eq (up_n (by omega)) (up_n (by omega)) (up_n (by omega)) (h2 j q).1, ?_⟩, fun b q => ?_, ?_, ⟨?_, ?_⟩, ?_, ⟨Or.inl up_s, fun q => ?_⟩, ?_, ?_⟩
  · rw [up_n (by omega), up_n (by omega)]; exact (h2 j q).2
  · obtain ⟨g1, g2, g3, g4, g5, g6⟩ := h3 b q
    refine ⟨by rw [up_n (by omega)]; exact g1, by rw [up_n (by omega)]; exact g2, by rw [up_n (by omega)]; exact g3, by rw [up_n (by omega)]; exact g4, by rw [up_n (by omega)]; exact g5, ?_⟩
    by_cases hb : b = w
    · rw [hb, up_s]
      rw [hb] at g6
      exact up_bit g6 hv
    · rw [up_n (by omega)]; exact g6
  · rw [up_n (by omega)]; exact h4
  · unfold RdgOk; rw [up_n (by omega), up_n (by omega), up_n (by omega)]; exact h5.1
  · rw [up_n (by omega), up_n (by omega)]; exact h5.2
  · rw [up_n (by omega), up_n (by omega), up_n (by omega)]; exact h6
  · rw [up_s] at q
    exact absurd q (by omega)
  · rw [up_n (by omega)]; exact h8
  · rw [up_n (by omega)]; exact h9
