theorem vM_wk {mi yi : Nat → Int} {ma ya : Nat → Nat → Int} {v : Int} (hfr : ∀ k, k ≠ 7 → k ≠ 8 → k ≠ 9 → yi k = mi k) (hfa : ∀ k, k ≠ 5 → k ≠ 6 → k ≠ 7 → k ≠ 8 → ya k = ma k) : vM (va_up yi 0 v) ya = sFa (vM mi ma) v := by
  have hd : ∀ k, k ≠ 0 → k ≠ 7 → k ≠ 8 → k ≠ 9 → va_up yi 0 v k = mi k := fun k h0 h1 h2 h3 => (up_n h0).trans (hfr k h1 h2 h3)
  rw [vM_fr (mi := mi) (ma := ma) (hd 1 (by decide) (by decide) (by decide) (by decide)) (hd 2 (by decide) (by decide) (by decide) (by decide)) (hd 22 (by decide) (by decide) (by decide) (by decide)) (fun k hk => hfa k (by omega) (by omega) (by omega) (by omega)), hd 29 (by decide) (by decide) (by decide) (by decide), up_s]
  rfl
theorem MOk_wk {mi yi : Nat → Int} {ma ya : Nat → Nat → Int} {v : Int} (hO : MOk mi ma) (hfr : ∀ k, k ≠ 7 → k ≠ 8 → k ≠ 9 → yi k = mi k) (hfa : ∀ k, k ≠ 5 → k ≠ 6 → k ≠ 7 → k ≠ 8 → ya k = ma k) (hq : MQ8 ya) (hv : 0 ≤ v ∧ v ≤ 4) : MOk (va_up yi 0 v) ya := by
  have hd : ∀ k, k ≠ 0 → k ≠ 7 → k ≠ 8 → k ≠ 9 → va_up yi 0 v k = mi k := fun k h0 h1 h2 h3 => (up_n h0).trans (hfr k h1 h2 h3)
  have ha : ∀ k, (k < 5 ∨ 8 < k) → ya k = ma k := fun k hk => hfa k (by omega) (by omega) (by omega) (by omega)
  obtain ⟨g1, g2, g3, g4, g5, g6, g7, g8⟩ := hO
  refine ⟨MRv_eq (hd 1 (by decide) (by decide) (by decide) (by decide)) (hd 2 (by decide) (by decide) (by decide) (by decide)) (ha 1 (by decide)) (ha 2 (by decide)) (ha 3 (by decide)) (ha 4 (by decide)) g1, by rw [hd 1 (by decide) (by decide) (by decide) (by decide)]; exact g2, hq, ?_, ?_, ?_, ?_, by rw [up_s]; exact hv⟩
  · rw [ha 14 (by decide), ha 15 (by decide)]; exact g4
  · rw [ha 16 (by decide)]; exact g5
  · rw [ha 17 (by decide)]; exact g6
  · rw [hd 22 (by decide) (by decide) (by decide) (by decide), ha 12 (by decide), ha 13 (by decide)]; exact g7
theorem msE_rvg {st p n : Int} {K M D B : Nat → Int} {τ : MS} (h : msE (st, p, n, K, M, D, B) τ) : rvOf τ = (n, nrm n K, nrm n M, nrm n D, nrm n B) ∧ τ.2.1 = p ∧ τ.2.2.1 = n := by
  obtain ⟨t', p', n', K', M', D', B'⟩ := τ
  obtain ⟨⟨h1, h2, h3, h4⟩, g1, g2, g3, g4⟩ := h
  refine ⟨?_, h2.symm, h3.symm⟩
  show ((n', nrm n' K', nrm n' M', nrm n' D', nrm n' B') : Rv) = (n, nrm n K, nrm n M, nrm n D, nrm n B)
  rw [← h3, nrm_eqB g1, nrm_eqB g2, nrm_eqB g3, nrm_eqB g4]
def cpOk (n : Int) (ya xa : Nat → Nat → Int) : Prop := ∀ j : Nat, (j : Int) < n → ya 1 j = xa 5 j ∧ ya 2 j = xa 6 j ∧ ya 3 j = xa 7 j ∧ ya 4 j = xa 8 j
def rgOk (ya : Nat → Nat → Int) : Prop := (∀ k : Nat, 0 ≤ ya 1 k ∧ ya 1 k ≤ 2) ∧ (∀ k : Nat, 0 ≤ ya 2 k ∧ ya 2 k ≤ 9) ∧ (∀ k : Nat, ya 3 k = 0 ∨ ya 3 k = 1) ∧ ∀ k : Nat, ya 4 k = 0 ∨ ya 4 k = 1
theorem vM_new {mi yi zi : Nat → Int} {ma ya za : Nat → Nat → Int} {τ : MS} {st : Int} (hfr : ∀ k, k ≠ 7 → k ≠ 8 → k ≠ 9 → yi k = mi k) (hfa : ∀ k, k ≠ 5 → k ≠ 6 → k ≠ 7 → k ≠ 8 → ya k = ma k) (hE : msE (st, yi 8, yi 9, ya 5, ya 6, ya 7, ya 8) τ) (hz : zi = va_up (va_up (va_up (va_up yi 2 (yi 8)) 1 (yi 9)) 22 0) 0 0) (ho : ∀ k, k ≠ 1 → k ≠ 2 → k ≠ 3 → k ≠ 4 → za k = ya k) (hc : cpOk (yi 9) za ya) : vM zi za = sRd (sP (sR (sFa (vM mi ma) 0) (rvOf τ)) τ.2.1) 0 (fun _ => 0) (fun _ => 0) := by
  subst hz
  obtain ⟨e1, e2, e3⟩ := msE_rvg hE
  have hd : ∀ k, k ≠ 0 → k ≠ 1 → k ≠ 2 → k ≠ 22 → k ≠ 7 → k ≠ 8 → k ≠ 9 → va_up (va_up (va_up (va_up yi 2 (yi 8)) 1 (yi 9)) 22 0) 0 0 k = mi k := fun k h0 h1 h2 h3 h4 h5 h6 => by rw [up_n h0, up_n h3, up_n h1, up_n h2]; exact hfr k h4 h5 h6
  have ha : ∀ k, 9 ≤ k → za k = ma k := fun k hk => (ho k (by omega) (by omega) (by omega) (by omega)).trans (hfa k (by omega) (by omega) (by omega) (by omega))
  refine av_ext (hd 29 (by decide) (by decide) (by decide) (by decide) (by decide) (by decide) (by decide)) rfl ?_ ?_ ?_ ?_ ?_ rfl ?_ ?_
  · show rvM _ za = rvOf τ
    rw [e1]
    show ((yi 9, nrm (yi 9) (za 1), nrm (yi 9) (za 2), nrm (yi 9) (za 3), nrm (yi 9) (za 4)) : Rv) = _
    rw [nrm_eqB (fun k hk => (hc k hk).1), nrm_eqB (fun k hk => (hc k hk).2.1), nrm_eqB (fun k hk => (hc k hk).2.2.1), nrm_eqB (fun k hk => (hc k hk).2.2.2)]
  · show yi 8 = τ.2.1
    exact e2.symm
  · show lanM za = lanM ma
    unfold lanM
    rw [ha 14 (by decide), ha 15 (by decide)]
  · show lenM za = lenM ma
    unfold lenM
    rw [ha 14 (by decide)]
  · show numM za = numM ma
    unfold numM lenM
    rw [ha 14 (by decide), ha 16 (by decide)]
  · show nrm 0 (za 12) = fun _ => 0
    exact nrm_zero
  · show nrm 0 (za 13) = fun _ => 0
    exact nrm_zero
theorem MOk_new {mi yi zi : Nat → Int} {ma ya za : Nat → Nat → Int} (hO : MOk mi ma) (hfr : ∀ k, k ≠ 7 → k ≠ 8 → k ≠ 9 → yi k = mi k) (hfa : ∀ k, k ≠ 5 → k ≠ 6 → k ≠ 7 → k ≠ 8 → ya k = ma k) (hq : MQ8 ya) (h9 : 2 ≤ yi 9 ∧ yi 9 ≤ 16) (h8 : 0 ≤ yi 8 ∧ yi 8 ≤ 3) (hz : zi = va_up (va_up (va_up (va_up yi 2 (yi 8)) 1 (yi 9)) 22 0) 0 0) (ho : ∀ k, k ≠ 1 → k ≠ 2 → k ≠ 3 → k ≠ 4 → za k = ya k) (hr : rgOk za) : MOk zi za := by
  subst hz
  have ha : ∀ k, 9 ≤ k → za k = ma k := fun k hk => (ho k (by omega) (by omega) (by omega) (by omega)).trans (hfa k (by omega) (by omega) (by omega) (by omega))
  obtain ⟨g1, g2, g3, g4, g5, g6, g7, g8⟩ := hO
  have hy9 : 0 ≤ yi 9 ∧ yi 9 ≤ 16 := by omega
  refine ⟨⟨hy9, h8, hr⟩, Or.inr h9.1, ?_, ?_, ?_, ?_, ⟨?_, ?_⟩, ?_⟩
  · rw [ho 5 (by decide) (by decide) (by decide) (by decide), ho 6 (by decide) (by decide) (by decide) (by decide), ho 7 (by decide) (by decide) (by decide) (by decide), ho 8 (by decide) (by decide) (by decide) (by decide)]; exact hq
  · rw [ha 14 (by decide), ha 15 (by decide)]; exact g4
  · rw [ha 16 (by decide)]; exact g5
  · rw [ha 17 (by decide)]; exact g6
  · show (0 : Int) ≤ 0 ∧ (0 : Int) ≤ 8
    omega
  · rw [ha 12 (by decide), ha 13 (by decide)]; exact g7.2
  · show (0 : Int) ≤ 0 ∧ (0 : Int) ≤ 4
    omega
