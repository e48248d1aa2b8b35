theorem runS_km {n : Int} {K M K' M' D B : Nat → Int} {g : Nat → Int} {p0 : Int} : ∀ t : Nat, runS ((n, K, M, D, B) : Rv) g p0 t = runS ((n, K', M', D, B) : Rv) g p0 t
  | 0 => rfl
  | t + 1 => by
    rw [runS, runS, runS_km t]
    rfl
theorem shareK {mi : Nat → Int} {ma : Nat → Nat → Int} {z i nn : Int} {c : Nat} {v : Int} (hR : MRv mi ma) (h1 : 1 ≤ mi 1) (hc : (c : Int) < mi 1) (ha : ∀ k : Nat, (k : Int) < nn → actG (vM mi ma) z.toNat i k = ma 16 ((60 * z + i).toNat + k)) {R' : Rv} (hR' : R' = (mi 1, va_up (nrm (mi 1) (ma 1)) c v, nrm (mi 1) (ma 2), nrm (mi 1) (ma 3), nrm (mi 1) (ma 4))) : prodT (fun t => dten ((fun k => ma 16 ((60 * z + i).toNat + k)) t) (hold R' (cellS R' (fun k => ma 16 ((60 * z + i).toNat + k)) (mi 2) t).toNat)) nn.toNat = dryA (vM mi ma) z.toNat i nn (c : Int) (holdK (rD (aR (vM mi ma)) c) v (rM (aR (vM mi ma)) c)) := by
  subst hR'
  unfold dryA
  refine prodT_congr (fun t ht => ?_)
  have hlt := runS_lt (R := rvM mi ma) (g := actG (vM mi ma) z.toNat i) (p0 := mi 2) hR.1.2 (by have := hR.2.1; show 0 ≤ mi 2 ∧ mi 2 < 4 * mi 1; omega) t
  have hcs : cellS ((mi 1, va_up (nrm (mi 1) (ma 1)) c v, nrm (mi 1) (ma 2), nrm (mi 1) (ma 3), nrm (mi 1) (ma 4)) : Rv) (fun k => ma 16 ((60 * z + i).toNat + k)) (mi 2) t = cellA (vM mi ma) z.toNat i t := by
    rw [← cellA_m ha (by omega)]
    unfold cellS
    rw [runS_km (K' := nrm (mi 1) (ma 1)) (M' := nrm (mi 1) (ma 2)) t]
    rfl
  have hce : 0 ≤ cellA (vM mi ma) z.toNat i t := by
    show 0 ≤ (runS (rvM mi ma) (actG (vM mi ma) z.toNat i) (mi 2) t).1 / 4
    omega
  rw [hcs, ha t (by omega)]
  by_cases hq : cellA (vM mi ma) z.toNat i t = (c : Int)
  · rw [if_pos hq, hq]
    show dten _ (holdK _ (va_up (nrm (mi 1) (ma 1)) c v c) _) = _
    rw [up_s]
    rfl
  · rw [if_neg hq]
    show dten _ (holdK _ (va_up (nrm (mi 1) (ma 1)) c v (cellA (vM mi ma) z.toNat i t).toNat) _) = _
    rw [up_n (by omega)]
    rfl
theorem shareM {mi : Nat → Int} {ma : Nat → Nat → Int} {z i nn : Int} {c : Nat} {v : Int} (hR : MRv mi ma) (h1 : 1 ≤ mi 1) (hc : (c : Int) < mi 1) (ha : ∀ k : Nat, (k : Int) < nn → actG (vM mi ma) z.toNat i k = ma 16 ((60 * z + i).toNat + k)) {R' : Rv} (hR' : R' = (mi 1, nrm (mi 1) (ma 1), va_up (nrm (mi 1) (ma 2)) c v, nrm (mi 1) (ma 3), nrm (mi 1) (ma 4))) : prodT (fun t => dten ((fun k => ma 16 ((60 * z + i).toNat + k)) t) (hold R' (cellS R' (fun k => ma 16 ((60 * z + i).toNat + k)) (mi 2) t).toNat)) nn.toNat = dryA (vM mi ma) z.toNat i nn (c : Int) (holdK (rD (aR (vM mi ma)) c) (rK (aR (vM mi ma)) c) v) := by
  subst hR'
  unfold dryA
  refine prodT_congr (fun t ht => ?_)
  have hlt := runS_lt (R := rvM mi ma) (g := actG (vM mi ma) z.toNat i) (p0 := mi 2) hR.1.2 (by have := hR.2.1; show 0 ≤ mi 2 ∧ mi 2 < 4 * mi 1; omega) t
  have hcs : cellS ((mi 1, nrm (mi 1) (ma 1), va_up (nrm (mi 1) (ma 2)) c v, nrm (mi 1) (ma 3), nrm (mi 1) (ma 4)) : Rv) (fun k => ma 16 ((60 * z + i).toNat + k)) (mi 2) t = cellA (vM mi ma) z.toNat i t := by
    rw [← cellA_m ha (by omega)]
    unfold cellS
    rw [runS_km (K' := nrm (mi 1) (ma 1)) (M' := nrm (mi 1) (ma 2)) t]
    rfl
  have hce : 0 ≤ cellA (vM mi ma) z.toNat i t := by
    show 0 ≤ (runS (rvM mi ma) (actG (vM mi ma) z.toNat i) (mi 2) t).1 / 4
    omega
  rw [hcs, ha t (by omega)]
  by_cases hq : cellA (vM mi ma) z.toNat i t = (c : Int)
  · rw [if_pos hq, hq]
    show dten _ (holdK _ _ (va_up (nrm (mi 1) (ma 2)) c v c)) = _
    rw [up_s]
    rfl
  · rw [if_neg hq]
    show dten _ (holdK _ _ (va_up (nrm (mi 1) (ma 2)) c v (cellA (vM mi ma) z.toNat i t).toNat)) = _
    rw [up_n (by omega)]
    rfl
theorem chkF_0in {A : AV} {c s l i n u : Int} (h : (chkFor A c s l i n u).1 = 0) : ((0 ≤ c ∧ c < rN (aR A)) ∧ 0 ≤ s ∧ s ≤ 3) ∧ ((0 ≤ l ∧ l ≤ 2) ∧ (0 ≤ n ∧ n ≤ 9) ∧ 0 ≤ u ∧ u ≤ 1000000000) ∧ (chkActs A s.toNat l i n).1 = 0 := by
  unfold chkFor at h
  split at h
  · exact absurd h (by decide)
  · split at h
    · exact absurd h (by decide)
    · split at h
      · rename_i h1 h2 h3
        exact absurd h h3
      · rename_i h1 h2 h3
        exact ⟨Classical.not_not.mp h1, Classical.not_not.mp h2, Classical.not_not.mp h3⟩
theorem actsM {mi : Nat → Int} {ma : Nat → Nat → Int} {z ln i nn : Int} (hz : 0 ≤ z ∧ z ≤ 3) (h : (chkActs (vM mi ma) z.toNat ln i nn).1 = 0) : 0 ≤ nn ∧ (0 ≤ i ∧ i + nn ≤ ma 14 z.toNat) ∧ (∀ k : Nat, (k : Int) < nn → actG (vM mi ma) z.toNat i k = ma 16 ((60 * z + i).toNat + k)) ∧ ∀ k : Nat, (k : Int) < nn → 0 ≤ ma 16 ((60 * z + i).toNat + k) ∧ ma 16 ((60 * z + i).toNat + k) ≤ 3 := by
  obtain ⟨h5, h6⟩ := chkA_0in h
  obtain ⟨h7, h8, h9, h10, h11⟩ := chkC_0in h5
  have hle : aLen (vM mi ma) z.toNat = if ma 14 z.toNat < 0 then 0 else ma 14 z.toNat := lenM_in (by omega)
  have hla : aLan (vM mi ma) z.toNat = if ma 14 z.toNat < 0 then -1 else ma 15 z.toNat := lanM_in (by omega)
  have hnn0 : ¬ ma 14 z.toNat < 0 := fun h => h7 (by rw [hla, if_pos h])
  rw [if_neg hnn0] at hle
  rw [hle] at h11
  have ha : ∀ k : Nat, (k : Int) < nn → actG (vM mi ma) z.toNat i k = ma 16 ((60 * z + i).toNat + k) := by
    intro k hk
    rw [actG_m (n := nn) (by omega) ⟨h10, h11⟩ hk, show (60 * z + i).toNat + k = 60 * z.toNat + (i.toNat + k) by omega]
  refine ⟨h9, ⟨h10, h11⟩, ha, fun k hk => ?_⟩
  rw [← ha k hk]
  exact h6 k (by omega)
