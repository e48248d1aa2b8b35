theorem lane_rng {f x l : Int} (hf : f = if x = -1 then 1 else if x = l then 0 else 2) : 0 ≤ f ∧ f ≤ 2 := by
  rw [hf]
  split
  · omega
  · split <;> omega
theorem chkC_lane {w : Nat} {xi : Nat → Int} {xa : Nat → Nat → Int} {j : Nat} {l i n f : Int} (hj : j < 4) (hf : f = if xi (2 + j) = -1 then 1 else if xi (2 + j) = l then 0 else 2) (h0 : f ≠ 0) : chkCells (vX w xi xa) j l i n = (-10 - f, f) := by
  rw [chkC_x hj]
  by_cases h1 : xi (2 + j) = -1
  · rw [if_pos h1] at hf ⊢
    rw [hf]
    rfl
  · rw [if_neg h1] at hf ⊢
    by_cases h2 : xi (2 + j) = l
    · rw [if_pos h2] at hf
      exact absurd hf h0
    · rw [if_neg h2] at hf
      rw [if_pos h2, hf]
      rfl
theorem lane_eq {f x l : Int} (hf : f = if x = -1 then 1 else if x = l then 0 else 2) (h0 : f = 0) : x ≠ -1 ∧ x = l := by
  by_cases h1 : x = -1
  · rw [if_pos h1] at hf
    omega
  · rw [if_neg h1] at hf
    by_cases h2 : x = l
    · exact ⟨h1, h2⟩
    · rw [if_neg h2] at hf
      omega
theorem chkC_neg {w : Nat} {xi : Nat → Int} {xa : Nat → Nat → Int} {j : Nat} {l i n f : Int} (hj : j < 4) (hf : f = if xi (2 + j) = -1 then 1 else if xi (2 + j) = l then 0 else 2) (h0 : f = 0) (hn : n < 0) : chkCells (vX w xi xa) j l i n = (-14, 4) := by
  have h := lane_eq hf h0
  rw [chkC_x hj, if_neg h.1, if_neg (fun q => q h.2), if_pos hn]
theorem chkC_out {w : Nat} {xi : Nat → Int} {xa : Nat → Nat → Int} {j : Nat} {l i n f : Int} (hj : j < 4) (hf : f = if xi (2 + j) = -1 then 1 else if xi (2 + j) = l then 0 else 2) (h0 : f = 0) (hn : 0 ≤ n) (hb : ¬ (0 ≤ i ∧ i + n ≤ xi (6 + j))) : chkCells (vX w xi xa) j l i n = (-13, 3) := by
  have h := lane_eq hf h0
  rw [chkC_x hj, if_neg h.1, if_neg (fun q => q h.2), if_neg (by omega), if_pos hb]
theorem chkC_in {w : Nat} {xi : Nat → Int} {xa : Nat → Nat → Int} {j : Nat} {l i n f : Int} (hj : j < 4) (hf : f = if xi (2 + j) = -1 then 1 else if xi (2 + j) = l then 0 else 2) (h0 : f = 0) (hn : 0 ≤ n) (hb : 0 ≤ i ∧ i + n ≤ xi (6 + j)) : chkCells (vX w xi xa) j l i n = (0, 0) := by
  have h := lane_eq hf h0
  rw [chkC_x hj, if_neg h.1, if_neg (fun q => q h.2), if_neg (by omega), if_neg (fun q => q hb)]
theorem mrun_at {σ0 : MS} {g : Nat → Int} : ∀ {t k : Nat}, mrun σ0 g t = .inr k → k < t
  | 0, k, h => by cases h
  | t + 1, k, h => by
    cases hm : mrun σ0 g t with
    | inr j =>
      rw [mrun, hm] at h
      cases h
      have := mrun_at hm
      omega
    | inl σ =>
      cases hs : mstep (g t) σ with
      | none =>
        rw [mrun_none hm hs] at h
        cases h
        omega
      | some τ =>
        rw [mrun_some hm hs] at h
        cases h
theorem mend_rng {σ0 σ : MS} {g : Nat → Int} {n : Nat} {e : Int} (h : mend σ0 g n e σ) : e = -9 ∨ (0 ≤ e ∧ e ≤ (n : Int)) := by
  unfold mend at h
  cases hm : mrun σ0 g n with
  | inr k =>
    rw [hm] at h
    have h2 : e = (k : Int) := h
    have := mrun_at hm
    omega
  | inl a =>
    rw [hm] at h
    rcases h with ⟨_, _, h, _⟩ | ⟨_, h⟩
    · exact Or.inl h
    · exact Or.inr (by omega)
theorem mend_two {σ0 σ : MS} {g : Nat → Int} {n : Nat} {e : Int} (h : mend σ0 g n e σ) (he : e = -9) : 2 ≤ σ.2.2.1 := by
  unfold mend at h
  cases hm : mrun σ0 g n with
  | inr k =>
    rw [hm] at h
    have h2 : e = (k : Int) := h
    omega
  | inl a =>
    rw [hm] at h
    rcases h with ⟨_, h1, _, h2⟩ | ⟨_, h⟩
    · rw [h2]; exact h1
    · omega
theorem XOk_dr {w d : Nat} {xi yi : Nat → Int} {xa ya : Nat → Nat → Int} (h : XOk w d xi xa) (hF : Fr xi xa yi ya d) (hR : RdOk yi ya d) : XOk w d yi ya := by
  obtain ⟨⟨h1, h1d⟩, h2, h3, h4, h5, h6, h7, h8, h9⟩ := h
  obtain ⟨f1, f2⟩ := hF
  have fi : ∀ k, k ≠ 14 → k ≠ 10 + d → k ≠ 12 + d → yi k = xi k := f1
  have fa : ∀ k, k ≠ 4 + d → k ≠ 6 + d → k ≠ 8 + d → k ≠ 10 + d → ya k = xa k := f2
  refine ⟨⟨h1, h1d⟩, fun j q => ⟨RowOk_eq (fi _ (by omega) (by omega) (by omega)) (fi _ (by omega) (by omega) (by omega)) (fa _ (by omega) (by omega) (by omega) (by omega)) (h2 j q).1, ?_⟩, fun b q => ?_, ?_, ⟨?_, ?_⟩, ?_, ?_, ?_, hR.2.1⟩
  · rw [fi (2 + j) (by omega) (by omega) (by omega), fi (6 + j) (by omega) (by omega) (by omega)]; exact (h2 j q).2
  · by_cases hb : b = d
    · rw [hb]; exact hR.1
    · exact RvOk_eq (fi _ (by omega) (by omega) (by omega)) (fi _ (by omega) (by omega) (by omega)) (fa _ (by omega) (by omega) (by omega) (by omega)) (fa _ (by omega) (by omega) (by omega) (by omega)) (fa _ (by omega) (by omega) (by omega) (by omega)) (fa _ (by omega) (by omega) (by omega) (by omega)) (h3 b q)
  · rw [fi (10 + w) (by omega) (by omega) (by omega)]; exact h4
  · unfold RdgOk
    rw [fi 18 (by omega) (by omega) (by omega), fa 14 (by omega) (by omega) (by omega) (by omega), fa 15 (by omega) (by omega) (by omega) (by omega)]
    exact h5.1
  · rw [fi 18 (by omega) (by omega) (by omega), fa 14 (by omega) (by omega) (by omega) (by omega)]
    exact h5.2
  · rw [fi 15 (by omega) (by omega) (by omega), fa 12 (by omega) (by omega) (by omega) (by omega), fa 13 (by omega) (by omega) (by omega) (by omega)]
    exact h6
  · rw [fi 19 (by omega) (by omega) (by omega), fa 17 (by omega) (by omega) (by omega) (by omega), rvX_eq (xi := xi) (xa := xa) (b := w) (fi _ (by omega) (by omega) (by omega)) (fa _ (by omega) (by omega) (by omega) (by omega)) (fa _ (by omega) (by omega) (by omega) (by omega)) (fa _ (by omega) (by omega) (by omega) (by omega)) (fa _ (by omega) (by omega) (by omega) (by omega))]
    exact h7
  · rw [fi 1 (by omega) (by omega) (by omega)]; exact h8
theorem vX_Fr {w d : Nat} {xi yi : Nat → Int} {xa ya : Nat → Nat → Int} (hw : w < 2) (hd : d = 1 - w) (hF : Fr (va_up xi 1 0) xa yi ya d) : vX w yi ya = sFa (vX w xi xa) 0 := by
  obtain ⟨f1, f2⟩ := hF
  have h1 : yi 1 = 0 := (f1 1 (by omega) (by omega) (by omega)).trans up_s
  rw [← h1]
  exact vX_dr ((f1 0 (by omega) (by omega) (by omega)).trans (up_n (by omega))) (fun k hk => (f1 k (by omega) (by omega) (by omega)).trans (up_n (by omega))) (fun k hk => f2 k (by omega) (by omega) (by omega) (by omega))
theorem nrm_zero {g : Nat → Int} : nrm 0 g = fun _ => 0 := by
  funext k
  exact nrm_out (by omega)
theorem vX_take {w d : Nat} {xi yi : Nat → Int} {xa ya : Nat → Nat → Int} (hw : w < 2) (hd : d = 1 - w) (hF : Fr (va_up xi 1 0) xa yi ya d) : vX d (va_up (va_up yi 18 0) 19 0) ya = sRd (sP (sR (sFa (vX w xi xa) 0) (rvX yi ya d)) (yi (12 + d))) 0 (fun _ => 0) (fun _ => 0) := by
  obtain ⟨f1, f2⟩ := hF
  have hu : ∀ k, k ≠ 18 → k ≠ 19 → va_up (va_up yi 18 0) 19 0 k = yi k := fun k a b => by rw [up_n b, up_n a]
  have hxi : ∀ k, 2 ≤ k → k ≤ 9 → yi k = xi k := fun k a b => (f1 k (by omega) (by omega) (by omega)).trans (up_n (by omega))
  have h18 : va_up (va_up yi 18 0) 19 0 18 = 0 := by rw [up_n (by omega), up_s]
  refine av_ext ?_ ?_ ?_ ?_ ?_ ?_ ?_ h18 ?_ ?_
  · show va_up (va_up yi 18 0) 19 0 0 = xi 0
    rw [hu 0 (by omega) (by omega)]
    exact (f1 0 (by omega) (by omega) (by omega)).trans (up_n (by omega))
  · show va_up (va_up yi 18 0) 19 0 1 = 0
    rw [hu 1 (by omega) (by omega)]
    exact (f1 1 (by omega) (by omega) (by omega)).trans up_s
  · exact rvX_eq (hu _ (by omega) (by omega)) rfl rfl rfl rfl
  · exact hu _ (by omega) (by omega)
  · show lanX _ = lanX xi
    funext j
    unfold lanX
    by_cases hj : j < 4
    · rw [if_pos hj, if_pos hj, hu _ (by omega) (by omega), hxi _ (by omega) (by omega)]
    · rw [if_neg hj, if_neg hj]
  · show lenX _ = lenX xi
    funext j
    unfold lenX
    by_cases hj : j < 4
    · rw [if_pos hj, if_pos hj, hu _ (by omega) (by omega), hxi _ (by omega) (by omega)]
    · rw [if_neg hj, if_neg hj]
  · show numX _ ya = numX xi xa
    funext j
    unfold numX
    by_cases hj : j < 4
    · rw [if_pos hj, if_pos hj, hu _ (by omega) (by omega), hxi _ (by omega) (by omega), f2 _ (by omega) (by omega) (by omega) (by omega)]
    · rw [if_neg hj, if_neg hj]
  · show nrm (va_up (va_up yi 18 0) 19 0 18) (ya 14) = fun _ => 0
    rw [h18]
    exact nrm_zero
  · show nrm (va_up (va_up yi 18 0) 19 0 18) (ya 15) = fun _ => 0
    rw [h18]
    exact nrm_zero
theorem XOk_take {w d : Nat} {xi : Nat → Int} {xa : Nat → Nat → Int} (h : XOk w d xi xa) (h2 : 2 ≤ xi (10 + d)) : XOk d w (va_up (va_up xi 18 0) 19 0) xa := by
  obtain ⟨⟨h1, h1d⟩, hr, h3, h4, h5, h6, h7, h8, h9⟩ := h
  have hu : ∀ k, k ≠ 18 → k ≠ 19 → va_up (va_up xi 18 0) 19 0 k = xi k := fun k a b => by rw [up_n b, up_n a]
  refine ⟨⟨by omega, by omega⟩, fun j q => ⟨RowOk_eq (hu _ (by omega) (by omega)) (hu _ (by omega) (by omega)) rfl (hr j q).1, ?_⟩, fun b q => RvOk_eq (hu _ (by omega) (by omega)) (hu _ (by omega) (by omega)) rfl rfl rfl rfl (h3 b q), ?_, ⟨⟨?_, h5.1.2⟩, ?_⟩, ?_, ⟨Or.inl up_s, fun q => ?_⟩, ?_, ?_⟩
  · rw [hu _ (by omega) (by omega), hu _ (by omega) (by omega)]; exact (hr j q).2
  · rw [hu _ (by omega) (by omega)]; exact Or.inr h2
  · rw [up_n (by omega), up_s]; omega
  · intro k hk
    rw [up_n (by omega), up_s] at hk
    omega
  · rw [hu _ (by omega) (by omega)]; exact h6
  · rw [up_s] at q
    exact absurd q (by omega)
  · rw [hu _ (by omega) (by omega)]; exact h8
  · rw [hu _ (by omega) (by omega)]; exact h9
