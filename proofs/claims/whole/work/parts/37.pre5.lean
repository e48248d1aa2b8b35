theorem vX_same {w : Nat} {xi yi : Nat → Int} {xa ya : Nat → Nat → Int} (hw : w < 2) (h0 : yi 0 = xi 0) (h1 : yi 1 = xi 1) (hx : ∀ k, (2 ≤ k ∧ k ≤ 13) ∨ k = 18 → yi k = xi k) (ha : ∀ k, k ≤ 11 ∨ k = 14 ∨ k = 15 → ya k = xa k) : vX w yi ya = vX w xi xa := by
  rw [vX_id hw h0 hx ha, h1]
  rfl
theorem vX_tab {w : Nat} {xi : Nat → Int} {xa ya : Nat → Nat → Int} (hw : w < 2) (ha : ∀ k, k ≠ 17 → ya k = xa k) : vX w (va_up xi 19 1) ya = vX w xi xa :=
  vX_same hw (up_n (by decide)) (up_n (by decide)) (fun k hk => up_n (by omega)) (fun k hk => ha k (by omega))
theorem XOk_tab {w d : Nat} {xi : Nat → Int} {xa ya : Nat → Nat → Int} (h : XOk w d xi xa) (hT : TabOk (rvX xi xa w) (ya 17) 12) (ha : ∀ k, k ≠ 17 → ya k = xa k) : XOk w d (va_up xi 19 1) ya := by
  obtain ⟨h1, h2, h3, h4, h5, h6, h7, h8, h9⟩ := h
  have hw := h1.1
  have hu : ∀ k, k ≠ 19 → va_up xi 19 1 k = xi k := fun k h => up_n h
  refine ⟨h1, fun j q => ⟨RowOk_eq (hu _ (by omega)) (hu _ (by omega)) (ha _ (by omega)) (h2 j q).1, ?_⟩, fun b q => RvOk_eq (hu _ (by omega)) (hu _ (by omega)) (ha _ (by omega)) (ha _ (by omega)) (ha _ (by omega)) (ha _ (by omega)) (h3 b q), ?_, ⟨?_, ?_⟩, ?_, ⟨Or.inr up_s, fun _ => ?_⟩, ?_, ?_⟩
  · rw [hu (2 + j) (by omega), hu (6 + j) (by omega)]; exact (h2 j q).2
  · rw [hu _ (by omega)]; exact h4
  · unfold RdgOk
    rw [hu 18 (by omega), ha 14 (by omega), ha 15 (by omega)]
    exact h5.1
  · rw [hu 18 (by omega), ha 14 (by omega)]; exact h5.2
  · rw [hu 15 (by omega), ha 12 (by omega), ha 13 (by omega)]; exact h6
  · rw [rvX_eq (xi := xi) (xa := xa) (b := w) (hu _ (by omega)) (ha _ (by omega)) (ha _ (by omega)) (ha _ (by omega)) (ha _ (by omega))]; exact hT
  · rw [hu 1 (by omega)]; exact h8
  · rw [hu 14 (by omega)]; exact h9
theorem XOk_wy {w d : Nat} {xi : Nat → Int} {xa ya : Nat → Nat → Int} (h : XOk w d xi xa) (ha : ∀ k, k ≠ 16 → ya k = xa k) : XOk w d xi ya :=
  XOk_fr h (fun _ _ => rfl) (fun k hk => ha k (by omega)) (by rw [ha 12 (by omega), ha 13 (by omega)]; exact h.2.2.2.2.2.1) h.2.2.2.2.2.2.2.1
theorem setB_x {w : Nat} {xi : Nat → Int} {xa : Nat → Nat → Int} {k : Nat} {v : Int} (hk : (k : Int) < xi (10 + w)) : rvX xi (va_up xa (10 + w) (va_up (xa (10 + w)) k v)) w = setB (rvX xi xa w) k v := by
  unfold rvX setB
  rw [up_n (by omega), up_n (by omega), up_n (by omega), up_s, nrm_up hk]
theorem brid_back {xa : Nat → Nat → Int} {t k : Nat} {u : Int} (h : xa t k = 1) : va_up (va_up xa t (va_up (xa t) k u)) t (va_up ((va_up xa t (va_up (xa t) k u)) t) k 1) = xa := by
  rw [up_s, bx_uu, bx_uu, ← h, up_id, up_id]
theorem soonX_rng {R : Rv} {p e : Int} (h : soonX R p e) : e = -9 ∨ (1 ≤ e ∧ e ≤ 64) := by
  rcases h with ⟨h1, h2, _⟩ | ⟨h, _⟩
  · exact Or.inr ⟨h1, h2⟩
  · exact Or.inl h
theorem nrm_add {m : Int} {g : Nat → Int} {v : Int} (hm : 0 ≤ m) : nrm (m + 1) (va_up g m.toNat v) = va_up (nrm m g) m.toNat v := by
  funext k
  unfold nrm
  by_cases hk : k = m.toNat
  · rw [hk, up_s, up_s, if_pos (by omega)]
  · rw [up_n hk, up_n hk]
    by_cases hq : (k : Int) < m
    · rw [if_pos hq, if_pos (by omega)]
    · rw [if_neg hq, if_neg (by omega)]
theorem nrm_nrm {m n : Int} {g : Nat → Int} (h : m ≤ n) : nrm m (nrm n g) = nrm m g := by
  funext k
  unfold nrm
  by_cases hk : (k : Int) < m
  · rw [if_pos hk, if_pos hk, if_pos (by omega)]
  · rw [if_neg hk, if_neg hk]
theorem vX_rd {w : Nat} {xi yi : Nat → Int} {xa ya : Nat → Nat → Int} {m : Int} {t l : Nat → Int} (hw : w < 2) (hx : ∀ k, k ≤ 13 → yi k = xi k) (ha : ∀ k, k ≤ 11 → ya k = xa k) (hm : yi 18 = m) (ht : nrm m (ya 14) = t) (hl : nrm m (ya 15) = l) : vX w yi ya = sRd (vX w xi xa) m t l := by
  refine av_ext (hx _ (by omega)) (hx _ (by omega)) (rvX_eq (hx _ (by omega)) (ha _ (by omega)) (ha _ (by omega)) (ha _ (by omega)) (ha _ (by omega))) (hx _ (by omega)) ?_ ?_ ?_ hm ?_ ?_
  · show lanX yi = lanX xi
    funext j
    unfold lanX
    by_cases hj : j < 4
    · rw [if_pos hj, if_pos hj, hx _ (by omega)]
    · rw [if_neg hj, if_neg hj]
  · show lenX yi = lenX xi
    funext j
    unfold lenX
    by_cases hj : j < 4
    · rw [if_pos hj, if_pos hj, hx _ (by omega)]
    · rw [if_neg hj, if_neg hj]
  · show numX yi ya = numX xi xa
    funext j
    unfold numX
    by_cases hj : j < 4
    · rw [if_pos hj, if_pos hj, hx _ (by omega), ha _ (by omega)]
    · rw [if_neg hj, if_neg hj]
  · show nrm (yi 18) (ya 14) = t
    rw [hm]; exact ht
  · show nrm (yi 18) (ya 15) = l
    rw [hm]; exact hl
theorem XOk_rd {w d : Nat} {xi yi : Nat → Int} {xa ya : Nat → Nat → Int} (h : XOk w d xi xa) (hx : ∀ k, k ≠ 18 → yi k = xi k) (ha : ∀ k, k ≠ 14 → k ≠ 15 → ya k = xa k) (hR : RdgOk yi ya) (hT : ∀ k : Nat, (k : Int) < yi 18 → 1 ≤ ya 14 k ∧ ya 14 k ≤ 12) : XOk w d yi ya := by
  obtain ⟨h1, h2, h3, h4, h5, h6, h7, h8, h9⟩ := h
  have hw := h1.1
  refine ⟨h1, fun j q => ⟨RowOk_eq (hx _ (by omega)) (hx _ (by omega)) (ha _ (by omega) (by omega)) (h2 j q).1, ?_⟩, fun b q => RvOk_eq (hx _ (by omega)) (hx _ (by omega)) (ha _ (by omega) (by omega)) (ha _ (by omega) (by omega)) (ha _ (by omega) (by omega)) (ha _ (by omega) (by omega)) (h3 b q), ?_, ⟨hR, hT⟩, ?_, ?_, ?_, ?_⟩
  · rw [hx (2 + j) (by omega), hx (6 + j) (by omega)]; exact (h2 j q).2
  · rw [hx _ (by omega)]; exact h4
  · rw [hx 15 (by omega), ha 12 (by omega) (by omega), ha 13 (by omega) (by omega)]; exact h6
  · rw [hx 19 (by omega), ha 17 (by omega) (by omega), rvX_eq (xi := xi) (xa := xa) (b := w) (hx _ (by omega)) (ha _ (by omega) (by omega)) (ha _ (by omega) (by omega)) (ha _ (by omega) (by omega)) (ha _ (by omega) (by omega))]; exact h7
  · rw [hx 1 (by omega)]; exact h8
  · rw [hx 14 (by omega)]; exact h9
theorem alA_x {w : Nat} {xi : Nat → Int} {xa : Nat → Nat → Int} : alA (vX w xi xa) = alX xi xa := by
  funext t cc
  unfold alA alX
  congr 1
  funext k
  show (!(decide ((k : Int) < xi 18)) || (!(decide (nrm (xi 18) (xa 14) k = (t : Int))) || decide (nrm (xi 18) (xa 15) k = cc))) = _
  by_cases hk : (k : Int) < xi 18
  · rw [nrm_in hk, nrm_in hk]
  · rw [decide_eq_false hk]
    rfl
theorem vX_sh {w j : Nat} {xi yi : Nat → Int} {xa ya : Nat → Nat → Int} {l n : Int} {g : Nat → Int} (hw : w < 2) (hj : j < 4) (hx : ∀ k, k ≠ 1 → k ≠ 2 + j → k ≠ 6 + j → yi k = xi k) (ha : ∀ k, k ≠ j → ya k = xa k) (hl : yi (2 + j) = l) (hn : yi (6 + j) = n) (hg : nrm n (ya j) = g) : vX w yi ya = sSh (sFa (vX w xi xa) (yi 1)) (va_up (lanX xi) j l) (va_up (lenX xi) j n) (va_up (numX xi xa) j g) := by
  refine av_ext (hx _ (by omega) (by omega) (by omega)) rfl (rvX_eq (hx _ (by omega) (by omega) (by omega)) (ha _ (by omega)) (ha _ (by omega)) (ha _ (by omega)) (ha _ (by omega))) (hx _ (by omega) (by omega) (by omega)) ?_ ?_ ?_ (hx _ (by omega) (by omega) (by omega)) ?_ ?_
  · show lanX yi = va_up (lanX xi) j l
    funext k
    by_cases hk : k = j
    · rw [hk, up_s, lanX_in hj, hl]
    · rw [up_n hk]
      unfold lanX
      by_cases hj : k < 4
      · rw [if_pos hj, if_pos hj, hx _ (by omega) (by omega) (by omega)]
      · rw [if_neg hj, if_neg hj]
  · show lenX yi = va_up (lenX xi) j n
    funext k
    by_cases hk : k = j
    · rw [hk, up_s, lenX_in hj, hn]
    · rw [up_n hk]
      unfold lenX
      by_cases hj : k < 4
      · rw [if_pos hj, if_pos hj, hx _ (by omega) (by omega) (by omega)]
      · rw [if_neg hj, if_neg hj]
  · show numX yi ya = va_up (numX xi xa) j g
    funext k
    by_cases hk : k = j
    · rw [hk, up_s, numX_in hj, hn, hg]
    · rw [up_n hk]
      unfold numX
      by_cases hj : k < 4
      · rw [if_pos hj, if_pos hj, hx _ (by omega) (by omega) (by omega), ha _ (by omega)]
      · rw [if_neg hj, if_neg hj]
  · show nrm (yi 18) (ya 14) = nrm (xi 18) (xa 14)
    rw [hx 18 (by omega) (by omega) (by omega), ha 14 (by omega)]
  · show nrm (yi 18) (ya 15) = nrm (xi 18) (xa 15)
    rw [hx 18 (by omega) (by omega) (by omega), ha 15 (by omega)]
theorem XOk_sh {w d j : Nat} {xi yi : Nat → Int} {xa ya : Nat → Nat → Int} (h : XOk w d xi xa) (hj : j < 4) (hx : ∀ k, k ≠ 1 → k ≠ 2 + j → k ≠ 6 + j → yi k = xi k) (ha : ∀ k, k ≠ j → ya k = xa k) (hR : RowOk yi ya j ∧ (yi (2 + j) = -1 → yi (6 + j) = 0)) (hf : 0 ≤ yi 1 ∧ yi 1 ≤ 4) : XOk w d yi ya := by
  obtain ⟨h1, h2, h3, h4, h5, h6, h7, h8, h9⟩ := h
  have hw := h1.1
  refine ⟨h1, fun k q => ?_, fun b q => RvOk_eq (hx _ (by omega) (by omega) (by omega)) (hx _ (by omega) (by omega) (by omega)) (ha _ (by omega)) (ha _ (by omega)) (ha _ (by omega)) (ha _ (by omega)) (h3 b q), ?_, ⟨?_, ?_⟩, ?_, ?_, hf, ?_⟩
  · by_cases hk : k = j
    · rw [hk]; exact hR
    · refine ⟨RowOk_eq (hx _ (by omega) (by omega) (by omega)) (hx _ (by omega) (by omega) (by omega)) (ha _ (by omega)) (h2 k q).1, ?_⟩
      rw [hx (2 + k) (by omega) (by omega) (by omega), hx (6 + k) (by omega) (by omega) (by omega)]; exact (h2 k q).2
  · rw [hx (10 + w) (by omega) (by omega) (by omega)]; exact h4
  · unfold RdgOk
    rw [hx 18 (by omega) (by omega) (by omega), ha 14 (by omega), ha 15 (by omega)]
    exact h5.1
  · rw [hx 18 (by omega) (by omega) (by omega), ha 14 (by omega)]; exact h5.2
  · rw [hx 15 (by omega) (by omega) (by omega), ha 12 (by omega), ha 13 (by omega)]; exact h6
  · rw [hx 19 (by omega) (by omega) (by omega), ha 17 (by omega), rvX_eq (xi := xi) (xa := xa) (b := w) (hx _ (by omega) (by omega) (by omega)) (ha _ (by omega)) (ha _ (by omega)) (ha _ (by omega)) (ha _ (by omega))]; exact h7
  · rw [hx 14 (by omega) (by omega) (by omega)]; exact h9
theorem nrm_all0 {n : Int} {g : Nat → Int} (h : ∀ k : Nat, (k : Int) < n → g k = 0) : nrm n g = fun _ => 0 := by
  funext k
  unfold nrm
  by_cases hk : (k : Int) < n
  · rw [if_pos hk, h k hk]
  · rw [if_neg hk]
theorem at_rng {e x lo hi : Int} {p : Prop} [Decidable p] (he : e = if p then x else 0) (h : lo ≤ x ∧ x < hi) (h0 : lo ≤ 0 ∧ 0 < hi) : lo ≤ e ∧ e < hi := by
  rw [he]
  split
  · exact h
  · exact h0
theorem cutL_rng (l : Int) {v : Int} (h : -2147483648 ≤ v ∧ v < 2147483648) : -2147483648 ≤ cutL l v ∧ cutL l v < 2147483648 := by
  unfold cutL cut8 cut16
  split
  · have h1 := Int32.le_toInt (iI v).toInt8.toInt32
    have h2 := Int32.toInt_lt (iI v).toInt8.toInt32
    omega
  · split
    · have h1 := Int32.le_toInt (iI v).toInt16.toInt32
      have h2 := Int32.toInt_lt (iI v).toInt16.toInt32
      omega
    · exact h
theorem nrm_cpy {f g : Nat → Int} {m n : Int} {a b c : Nat} (h1 : ((a + c : Nat) : Int) ≤ m) (h2 : ((b + c : Nat) : Int) ≤ n) : nrm n (cpyN f g a b c) = cpyN (nrm m f) (nrm n g) a b c := by
  funext k
  unfold cpyN
  by_cases hk : b ≤ k ∧ k < b + c
  · rw [if_pos hk, nrm_in (by omega), nrm_in (by omega), if_pos hk]
  · rw [if_neg hk]
    unfold nrm
    by_cases hq : (k : Int) < n
    · rw [if_pos hq, if_pos hq]
      exact if_neg hk
    · rw [if_neg hq, if_neg hq]
