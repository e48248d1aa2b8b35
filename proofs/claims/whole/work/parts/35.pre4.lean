theorem chkP_0 {A : AV} {s l i n : Int} {p : Prop} [Decidable p] : (chkPlan A s l i n p).1 = 0 → (chkPlan A s l i n p).2 = 0 := by
  unfold chkPlan
  split
  · intro h; exact absurd h (by decide)
  · split
    · intro h; exact absurd h (by decide)
    · split
      · intro h; exact absurd h (by decide)
      · exact chk_0.2
theorem chkF_0 {A : AV} {c s l i n u : Int} : (chkFor A c s l i n u).1 = 0 → (chkFor A c s l i n u).2 = 0 := by
  unfold chkFor
  split
  · intro h; exact absurd h (by decide)
  · split
    · intro h; exact absurd h (by decide)
    · split
      · exact chk_0.2
      · split
        · intro _; rfl
        · intro _; rfl
theorem chkActs_fa {A : AV} {f : Int} : chkActs (sFa A f) = chkActs A := rfl
theorem JF_fa {A : AV} {f : Int} {j : Nat} {i nn : Int} {xi : Nat → Int} {xa : Nat → Nat → Int} : JF (sFa A f) j i nn xi xa = JF A j i nn xi xa := rfl
theorem fa_fa {A : AV} {f g : Int} : sFa (sFa A f) g = sFa A g := rfl
theorem polM_congr {g h cs ds : Nat → Int} : ∀ {t : Nat}, (∀ k, k < t → g k = h k ∧ cs k = ds k) → polM g cs t = polM h ds t
  | 0, _ => rfl
  | t + 1, H => by rw [polM, polM, polM_congr (fun k hk => H k (by omega)), (H t (by omega)).1, (H t (by omega)).2]
theorem popN_le (m : Nat) : popN m ≤ 16 := by
  unfold popN
  omega
theorem nrm_rng {n : Int} {g : Nat → Int} (h : ∀ k : Nat, 0 ≤ g k ∧ g k ≤ 9) (c : Nat) : 0 ≤ nrm n g c ∧ nrm n g c ≤ 9 := by
  unfold nrm
  split
  · exact h c
  · omega
theorem run_rng {w d : Nat} {xi : Nat → Int} {xa : Nat → Nat → Int} {j : Nat} {i : Int} (hO : XOk w d xi xa) (h1 : 1 ≤ xi (10 + w)) (t : Nat) : 0 ≤ (runS (aR (vX w xi xa)) (actG (vX w xi xa) j i) (aP (vX w xi xa)) t).1 ∧ (runS (aR (vX w xi xa)) (actG (vX w xi xa) j i) (aP (vX w xi xa)) t).1 < 4 * xi (10 + w) := by
  have hR := hO.2.2.1 w hO.1.1
  obtain ⟨hN, hP, _⟩ := id hR
  exact runS_lt (R := aR (vX w xi xa)) (show xi (10 + w) ≤ 16 by omega) (show 0 ≤ xi (12 + w) ∧ xi (12 + w) < 4 * xi (10 + w) by omega) t
theorem run_wr {A : AV} {j : Nat} {i nn : Int} (h : 0 ≤ nn ∧ nn ≤ 18) : (runA A j i nn).2 = -9 ∨ (0 ≤ (runA A j i nn).2 ∧ (runA A j i nn).2 < 18) := by
  have := runS_wr (R := aR A) (g := actG A j i) (p0 := aP A) nn.toNat
  unfold runA
  omega
theorem JF_cells {w d : Nat} {xi yi : Nat → Int} {xa ya : Nat → Nat → Int} {j : Nat} {i nn : Int} (hO : XOk w d xi xa) (h1 : 1 ≤ xi (10 + w)) (hJ : JF (vX w xi xa) j i nn yi ya) (q : (runA (vX w xi xa) j i nn).2 = -9) : ∀ k : Nat, (k : Int) < yi 15 → 0 ≤ ya 13 k ∧ ya 13 k < xi (10 + w) := by
  intro k hk
  rw [hJ.1] at hk
  rw [(hJ.2.2.1 q).2 k hk]
  have := run_rng (j := j) (i := i) hO h1 k
  unfold cellA cellS
  omega
theorem dry_is {R : Rv} {A : AV} {j : Nat} {i nn : Int} {yi : Nat → Int} {ya : Nat → Nat → Int} (hR : R = aR A) (hJ : JF A j i nn yi ya) (h0 : 0 ≤ nn) (q : (runA A j i nn).2 = -9) (c h : Int) : prodT (fun t => dten (ya 12 t) (if ya 13 t = c then h else hold R (ya 13 t).toNat)) (yi 15).toNat = dryA A j i nn c h := by
  obtain ⟨j15, j16, j17, j12⟩ := hJ
  unfold dryA
  rw [j15, hR]
  refine prodT_congr (fun k hk => ?_)
  have e1 := j12 k (by omega)
  have e2 := (j17 q).2 k (by omega)
  rw [e1, e2]
theorem pol_is {A : AV} {j : Nat} {i nn : Int} {yi : Nat → Int} {ya : Nat → Nat → Int} (hJ : JF A j i nn yi ya) (h0 : 0 ≤ nn) (q : (runA A j i nn).2 = -9) : polM (ya 12) (ya 13) (yi 15).toNat = polM (actG A j i) (cellA A j i) nn.toNat := by
  obtain ⟨j15, j16, j17, j12⟩ := hJ
  rw [j15]
  exact polM_congr (fun k hk => ⟨j12 k (by omega), (j17 q).2 k (by omega)⟩)
theorem dryA_rng {w d : Nat} {xi : Nat → Int} {xa : Nat → Nat → Int} {j : Nat} {i nn : Int} (hO : XOk w d xi xa) (c : Int) {h : Int} (hh : 0 ≤ h ∧ h ≤ 9) : 1 ≤ dryA (vX w xi xa) j i nn c h ∧ dryA (vX w xi xa) j i nn c h ≤ 10 ^ nn.toNat := by
  have hR := hO.2.2.1 w hO.1.1
  unfold dryA
  refine prodT_rng (fun t => dten_rng ?_) _
  split
  · exact hh
  · exact hold_rng (nrm_rng hR.2.2.2.1 _)
theorem leastT_one {k wh : Int} : leastT 1 k wh = if wh = 0 then 1 else k := by
  unfold leastT
  rw [show Int.gcd 1 k = 1 from Int.one_gcd]
  show (if wh = 0 then 1 else k) / (1 : Int) = _
  exact Int.ediv_one _
theorem chkC_rng {A : AV} {j : Nat} {l i n : Int} : -20 ≤ (chkCells A j l i n).1 ∧ (chkCells A j l i n).1 ≤ 0 := by
  unfold chkCells
  split
  · decide
  · split
    · decide
    · split
      · decide
      · split <;> decide
theorem chkA_rng {A : AV} {j : Nat} {l i n : Int} : -20 ≤ (chkActs A j l i n).1 ∧ (chkActs A j l i n).1 ≤ 0 := by
  unfold chkActs
  split
  · exact chkC_rng
  · split <;> decide
theorem chkP_rng {A : AV} {s l i n : Int} {p : Prop} [Decidable p] : -20 ≤ (chkPlan A s l i n p).1 ∧ (chkPlan A s l i n p).1 ≤ 0 := by
  unfold chkPlan
  split
  · decide
  · split
    · decide
    · split
      · decide
      · exact chkA_rng
theorem chkF_rng {A : AV} {c s l i n u : Int} : -200 ≤ (chkFor A c s l i n u).1 ∧ (chkFor A c s l i n u).1 ≤ 0 := by
  unfold chkFor
  split
  · decide
  · rename_i h0
    split
    · decide
    · rename_i h1
      split
      · have := chkA_rng (A := A) (j := s.toNat) (l := l) (i := i) (n := n)
        omega
      · split
        · have := run_wr (A := A) (j := s.toNat) (i := i) (nn := n) (by omega)
          show -200 ≤ -100 - (runA A s.toNat i n).2 ∧ -100 - (runA A s.toNat i n).2 ≤ 0
          omega
        · decide
