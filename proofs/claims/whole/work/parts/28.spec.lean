/-! what is seen of a state, and what each call does to it: the same words for both sides -/
abbrev AV : Type := Int × Int × Rv × Int × (Nat → Int) × (Nat → Int) × (Nat → Nat → Int) × Int × (Nat → Int) × (Nat → Int)
def aTr (A : AV) : Int := A.1
def aFa (A : AV) : Int := A.2.1
def aR (A : AV) : Rv := A.2.2.1
def aP (A : AV) : Int := A.2.2.2.1
def aLan (A : AV) : Nat → Int := A.2.2.2.2.1
def aLen (A : AV) : Nat → Int := A.2.2.2.2.2.1
def aNum (A : AV) : Nat → Nat → Int := A.2.2.2.2.2.2.1
def aRc (A : AV) : Int := A.2.2.2.2.2.2.2.1
def aRt (A : AV) : Nat → Int := A.2.2.2.2.2.2.2.2.1
def aRl (A : AV) : Nat → Int := A.2.2.2.2.2.2.2.2.2
def sTr (A : AV) (v : Int) : AV := (v, A.2)
def sFa (A : AV) (v : Int) : AV := (A.1, v, A.2.2)
def sR (A : AV) (R : Rv) : AV := (A.1, A.2.1, R, A.2.2.2)
def sP (A : AV) (v : Int) : AV := (A.1, A.2.1, A.2.2.1, v, A.2.2.2.2)
def sSh (A : AV) (l n : Nat → Int) (g : Nat → Nat → Int) : AV := (A.1, A.2.1, A.2.2.1, A.2.2.2.1, l, n, g, A.2.2.2.2.2.2.2)
def sRd (A : AV) (c : Int) (t l : Nat → Int) : AV := (A.1, A.2.1, A.2.2.1, A.2.2.2.1, A.2.2.2.2.1, A.2.2.2.2.2.1, A.2.2.2.2.2.2.1, c, t, l)
theorem av_ext {A B : AV} (h1 : aTr A = aTr B) (h2 : aFa A = aFa B) (h3 : aR A = aR B) (h4 : aP A = aP B) (h5 : aLan A = aLan B) (h6 : aLen A = aLen B) (h7 : aNum A = aNum B) (h8 : aRc A = aRc B) (h9 : aRt A = aRt B) (h10 : aRl A = aRl B) : A = B := by
  obtain ⟨a1, a2, a3, a4, a5, a6, a7, a8, a9, a10⟩ := A
  obtain ⟨b1, b2, b3, b4, b5, b6, b7, b8, b9, b10⟩ := B
  cases h1; cases h2; cases h3; cases h4; cases h5; cases h6; cases h7; cases h8; cases h9; cases h10
  rfl
def lanX (xi : Nat → Int) : Nat → Int := fun j => if j < 4 then xi (2 + j) else 0
def lenX (xi : Nat → Int) : Nat → Int := fun j => if j < 4 then xi (6 + j) else 0
def numX (xi : Nat → Int) (xa : Nat → Nat → Int) : Nat → Nat → Int := fun j => if j < 4 then nrm (xi (6 + j)) (xa j) else fun _ => 0
def vX (w : Nat) (xi : Nat → Int) (xa : Nat → Nat → Int) : AV := (xi 0, xi 1, rvX xi xa w, xi (12 + w), lanX xi, lenX xi, numX xi xa, xi 18, nrm (xi 18) (xa 14), nrm (xi 18) (xa 15))
def XOk (w d : Nat) (xi : Nat → Int) (xa : Nat → Nat → Int) : Prop :=
  (w < 2 ∧ d = 1 - w) ∧ (∀ j, j < 4 → RowOk xi xa j ∧ (xi (2 + j) = -1 → xi (6 + j) = 0)) ∧ (∀ b, b < 2 → RvOk xi xa b) ∧ (xi (10 + w) = 0 ∨ 2 ≤ xi (10 + w)) ∧ (RdgOk xi xa ∧ ∀ k : Nat, (k : Int) < xi 18 → 1 ≤ xa 14 k ∧ xa 14 k ≤ 12) ∧ ((0 ≤ xi 15 ∧ xi 15 ≤ 18) ∧ (∀ k : Nat, 0 ≤ xa 12 k ∧ xa 12 k ≤ 3) ∧ ∀ k : Nat, 0 ≤ xa 13 k ∧ xa 13 k ≤ 15) ∧ ((xi 19 = 0 ∨ xi 19 = 1) ∧ (xi 19 = 1 → TabOk (rvX xi xa w) (xa 17) 12)) ∧ (0 ≤ xi 1 ∧ xi 1 ≤ 4) ∧ (0 ≤ xi 14 ∧ xi 14 ≤ 5)
theorem RowOk_eq {xi yi : Nat → Int} {xa ya : Nat → Nat → Int} {j : Nat} (h1 : yi (2 + j) = xi (2 + j)) (h2 : yi (6 + j) = xi (6 + j)) (h3 : ya j = xa j) (h : RowOk xi xa j) : RowOk yi ya j := by
  unfold RowOk
  rw [h1, h2, h3]
  exact h
theorem vX_fr {w : Nat} {xi yi : Nat → Int} {xa ya : Nat → Nat → Int} (hw : w < 2) (hx : ∀ k, (2 ≤ k ∧ k ≤ 13) ∨ k = 18 → yi k = xi k) (ha : ∀ k, k ≤ 11 ∨ k = 14 ∨ k = 15 → ya k = xa k) : vX w yi ya = sFa (sTr (vX w xi xa) (yi 0)) (yi 1) := by
  refine av_ext rfl rfl ?_ (hx _ (by omega)) ?_ ?_ ?_ (hx _ (by omega)) ?_ ?_
  · exact rvX_eq (hx _ (by omega)) (ha _ (by omega)) (ha _ (by omega)) (ha _ (by omega)) (ha _ (by omega))
  · show lanX yi = lanX xi
    funext j
    unfold lanX
    by_cases hj : j < 4
    · rw [if_pos hj, if_pos hj, hx _ (by omega)]
    · rw [if_neg hj, if_neg hj]
  · show lenX yi = lenX xi
    funext j
    unfold lenX
    by_cases hj : j < 4
    · rw [if_pos hj, if_pos hj, hx _ (by omega)]
    · rw [if_neg hj, if_neg hj]
  · show numX yi ya = numX xi xa
    funext j
    unfold numX
    by_cases hj : j < 4
    · rw [if_pos hj, if_pos hj, hx _ (by omega), ha _ (by omega)]
    · rw [if_neg hj, if_neg hj]
  · show nrm (yi 18) (ya 14) = nrm (xi 18) (xa 14)
    rw [hx _ (by omega), ha _ (by omega)]
  · show nrm (yi 18) (ya 15) = nrm (xi 18) (xa 15)
    rw [hx _ (by omega), ha _ (by omega)]
theorem XOk_fr {w d : Nat} {xi yi : Nat → Int} {xa ya : Nat → Nat → Int} (h : XOk w d xi xa) (hx : ∀ k, (2 ≤ k ∧ k ≤ 14) ∨ k = 18 ∨ k = 19 → yi k = xi k) (ha : ∀ k, k ≤ 11 ∨ k = 14 ∨ k = 15 ∨ k = 17 → ya k = xa k) (hj : (0 ≤ yi 15 ∧ yi 15 ≤ 18) ∧ (∀ k : Nat, 0 ≤ ya 12 k ∧ ya 12 k ≤ 3) ∧ ∀ k : Nat, 0 ≤ ya 13 k ∧ ya 13 k ≤ 15) (hf : 0 ≤ yi 1 ∧ yi 1 ≤ 4) : XOk w d yi ya := by
  obtain ⟨h1, h2, h3, h4, h5, h6, h7, h8, h9⟩ := h
  refine ⟨h1, fun j q => ⟨RowOk_eq (hx _ (by omega)) (hx _ (by omega)) (ha _ (by omega)) (h2 j q).1, ?_⟩, fun b q => RvOk_eq (hx _ (by omega)) (hx _ (by omega)) (ha _ (by omega)) (ha _ (by omega)) (ha _ (by omega)) (ha _ (by omega)) (h3 b q), ?_, ⟨?_, ?_⟩, hj, ?_, hf, ?_⟩
  · rw [hx _ (by omega), hx _ (by omega)]; exact (h2 j q).2
  · rw [hx _ (by omega)]; exact h4
  · unfold RdgOk
    rw [hx _ (by omega), ha 14 (by omega), ha 15 (by omega)]
    exact h5.1
  · rw [hx _ (by omega), ha 14 (by omega)]
    exact h5.2
  · rw [hx 19 (by omega), ha 17 (by omega), rvX_eq (hx (10 + w) (by omega)) (ha (4 + w) (by omega)) (ha (6 + w) (by omega)) (ha (8 + w) (by omega)) (ha (10 + w) (by omega))]
    exact h7
  · rw [hx _ (by omega)]; exact h9
theorem XOk_fa {w d : Nat} {xi : Nat → Int} {xa : Nat → Nat → Int} (h : XOk w d xi xa) {f : Int} (hf : 0 ≤ f ∧ f ≤ 4) : XOk w d (va_up xi 1 f) xa :=
  XOk_fr h (fun k hk => up_n (by omega)) (fun _ _ => rfl) (by rw [up_n (by decide)]; exact h.2.2.2.2.2.1) (by rw [up_s]; exact hf)
theorem vX_fa {w : Nat} (hw : w < 2) {xi : Nat → Int} {xa : Nat → Nat → Int} {f : Int} : vX w (va_up xi 1 f) xa = sFa (vX w xi xa) f := by
  rw [vX_fr hw (fun k hk => up_n (by omega)) (fun _ _ => rfl), up_s, up_n (by decide)]
  rfl
theorem XOk_tr {w d : Nat} {xi : Nat → Int} {xa : Nat → Nat → Int} (h : XOk w d xi xa) {f : Int} : XOk w d (va_up xi 0 f) xa :=
  XOk_fr h (fun k hk => up_n (by omega)) (fun _ _ => rfl) (by rw [up_n (by decide)]; exact h.2.2.2.2.2.1) (by rw [up_n (by decide)]; exact h.2.2.2.2.2.2.2.1)
theorem vX_tr {w : Nat} (hw : w < 2) {xi : Nat → Int} {xa : Nat → Nat → Int} {f : Int} : vX w (va_up xi 0 f) xa = sTr (vX w xi xa) f := by
  rw [vX_fr hw (fun k hk => up_n (by omega)) (fun _ _ => rfl), up_s, up_n (by decide)]
  rfl
/-! the calls -/
def LOSTz : Int := -9223372036854775808
def msZ : MS := (0, 0, 0, fun _ => 0, fun _ => 0, fun _ => 0, fun _ => 0)
def rvOf (σ : MS) : Rv := (σ.2.2.1, nrm σ.2.2.1 σ.2.2.2.1, nrm σ.2.2.1 σ.2.2.2.2.1, nrm σ.2.2.1 σ.2.2.2.2.2.1, nrm σ.2.2.1 σ.2.2.2.2.2.2)
/-- what taking so many cells of a sheet of a lane comes to: the answer, the fault; 0: they may be -/
def chkCells (A : AV) (j : Nat) (l i n : Int) : Int × Int := if aLan A j = -1 then (-11, 1) else if aLan A j ≠ l then (-12, 2) else if n < 0 then (-14, 4) else if ¬ (0 ≤ i ∧ i + n ≤ aLen A j) then (-13, 3) else (0, 0)
def actG (A : AV) (j : Nat) (i : Int) : Nat → Int := fun k => aNum A j (i.toNat + k)
def chkActs (A : AV) (j : Nat) (l i n : Int) : Int × Int := if (chkCells A j l i n).1 ≠ 0 then chkCells A j l i n else if ¬ (∀ k : Nat, k < n.toNat → 0 ≤ actG A j i k ∧ actG A j i k ≤ 3) then (-2, 0) else (0, 0)
def chkPlan (A : AV) (s l i n : Int) (ok : Prop) [Decidable ok] : Int × Int := if ¬ (0 ≤ s ∧ s ≤ 3) then (-1, 0) else if ¬ ((0 ≤ l ∧ l ≤ 2) ∧ (0 ≤ n ∧ n ≤ 18) ∧ ok) then (-2, 0) else if rN (aR A) = 0 then (-3, 0) else chkActs A s.toNat l i n
def runA (A : AV) (j : Nat) (i n : Int) : Int × Int := runS (aR A) (actG A j i) (aP A) n.toNat
def cellA (A : AV) (j : Nat) (i : Int) (t : Nat) : Int := cellS (aR A) (actG A j i) (aP A) t
/-- the share of a plan, where a cell holds otherwise (c below 0: none) -/
def dryA (A : AV) (j : Nat) (i n c h : Int) : Int := prodT (fun t => dten (actG A j i t) (if cellA A j i t = c then h else hold (aR A) (cellA A j i t).toNat)) n.toNat
def leastT (up lo wh : Int) : Int := (if wh = 0 then up else lo) / (Int.gcd up lo : Int)
def spRiver (A : AV) (s l i n e : Int) (A' : AV) : Prop :=
  if ¬ (0 ≤ s ∧ s ≤ 3) then e = -1 ∧ A' = sFa A 0
  else if ¬ (0 ≤ l ∧ l ≤ 2) then e = -2 ∧ A' = sFa A 0
  else if (chkCells A s.toNat l i n).1 ≠ 0 then e = (chkCells A s.toNat l i n).1 ∧ A' = sFa A (chkCells A s.toNat l i n).2
  else ∃ (r : Int) (σ : MS), mend msZ (actG A s.toNat i) n.toNat r σ ∧ ((r ≠ -9 ∧ e = -100 - r ∧ A' = sFa A 0) ∨ (r = -9 ∧ e = σ.2.2.1 ∧ A' = sRd (sP (sR (sFa A 0) (rvOf σ)) σ.2.1) 0 (fun _ => 0) (fun _ => 0)))
def spOfCell (A : AV) (c wh e : Int) : Prop :=
  if ¬ (0 ≤ c ∧ c < rN (aR A)) then e = -1
  else if wh = 0 then e = rK (aR A) c.toNat else if wh = 1 then e = rM (aR A) c.toNat else if wh = 2 then e = hold (aR A) c.toNat else if wh = 3 then e = rD (aR A) c.toNat else if wh = 4 then e = rB (aR A) c.toNat else e = -2
def spPace (A : AV) (v e : Int) (A' : AV) : Prop := if ¬ (0 ≤ v ∧ v ≤ 3) then e = -2 ∧ A' = A else if rN (aR A) = 0 then e = -3 ∧ A' = A else e = aP A ∧ A' = sP A v
def setB (R : Rv) (c : Nat) (v : Int) : Rv := (R.1, R.2.1, R.2.2.1, R.2.2.2.1, va_up R.2.2.2.2 c v)
def spBridge (A : AV) (c b e : Int) (A' : AV) : Prop := if ¬ (0 ≤ c ∧ c < rN (aR A)) then e = -1 ∧ A' = A else if rB (aR A) c.toNat = b then e = 0 ∧ A' = A else e = 1 ∧ A' = sR A (setB (aR A) c.toNat b)
def spPlan (A : AV) (s l i n wh e : Int) (A' : AV) : Prop :=
  if (chkPlan A s l i n (0 ≤ wh ∧ wh ≤ 2)).1 ≠ 0 then e = (chkPlan A s l i n (0 ≤ wh ∧ wh ≤ 2)).1 ∧ A' = sFa A (chkPlan A s l i n (0 ≤ wh ∧ wh ≤ 2)).2
  else A' = sFa A 0 ∧ (if wh = 1 then e = (runA A s.toNat i n).2 else if (runA A s.toNat i n).2 ≠ -9 then e = -100 - (runA A s.toNat i n).2 else if wh = 0 then e = (runA A s.toNat i n).1 / 4 else e = (runA A s.toNat i n).1 % 4)
def spDry (A : AV) (s l i n wh e : Int) (A' : AV) : Prop :=
  A' = sFa A (chkPlan A s l i n (wh = 0 ∨ wh = 1)).2 ∧ (if (chkPlan A s l i n (wh = 0 ∨ wh = 1)).1 ≠ 0 ∨ (runA A s.toNat i n).2 ≠ -9 then e = LOSTz else e = leastT (dryA A s.toNat i n (-1) 0) (10 ^ n.toNat) wh)
def spOdds (A : AV) (s l i n wh e : Int) (A' : AV) : Prop :=
  A' = sFa A (chkPlan A s l i n (wh = 0 ∨ wh = 1)).2 ∧ (if (chkPlan A s l i n (wh = 0 ∨ wh = 1)).1 ≠ 0 ∨ (runA A s.toNat i n).2 ≠ -9 then e = LOSTz else e = if wh = 0 then 1 else 2 ^ popN (polM (actG A s.toNat i) (cellA A s.toNat i) n.toNat))
def spSoonest (A : AV) (e : Int) : Prop := if rN (aR A) = 0 then e = -3 else soonX (aR A) (aP A) e
def spSurest (A : AV) (n q e : Int) : Prop :=
  if ¬ ((1 ≤ n ∧ n ≤ 12) ∧ -1 ≤ q ∧ q ≤ 11) then e = -2 else if rN (aR A) = 0 then e = -3
  else if (surT (aR A) (aP A) n.toNat).2 = 0 then e = -9 else if q = -1 then e = (surT (aR A) (aP A) n.toNat).2
  else e = if q < (surT (aR A) (aP A) n.toNat).2 then fstA (aR A) ((surT (aR A) (aP A) n.toNat).2.toNat - q.toNat - 1) (sptF (aR A) (surT (aR A) (aP A) n.toNat).2.toNat (aP A) q.toNat) else -9
def spSure (A : AV) (n wh e : Int) : Prop :=
  if ¬ ((1 ≤ n ∧ n ≤ 12) ∧ (wh = 0 ∨ wh = 1) ∧ rN (aR A) ≠ 0) then e = LOSTz
  else if (surT (aR A) (aP A) n.toNat).2 = 0 then e = wh else e = leastT (bestF (aR A) (surT (aR A) (aP A) n.toNat).2.toNat (aP A)) (10 ^ (surT (aR A) (aP A) n.toNat).2.toNat) wh
def spCost (A : AV) (c e : Int) : Prop :=
  if ¬ (0 ≤ c ∧ c < rN (aR A)) then e = -1 else if rB (aR A) c.toNat = 0 then e = 0
  else ∃ x y : Int, soonX (aR A) (aP A) x ∧ soonX (setB (aR A) c.toNat 0) (aP A) y ∧ e = if x = -9 ∨ y = -9 then -9 else x - y
def spReading (A : AV) (t c e : Int) (A' : AV) : Prop :=
  if ¬ (0 ≤ c ∧ c < rN (aR A)) then e = -1 ∧ A' = A else if ¬ (1 ≤ t ∧ t ≤ 12) then e = -2 ∧ A' = A else if aRc A = 8 then e = -4 ∧ A' = A
  else e = aRc A ∧ A' = sRd A (aRc A + 1) (va_up (aRt A) (aRc A).toNat t) (va_up (aRl A) (aRc A).toNat c)
def spBack (A : AV) (k e : Int) (A' : AV) : Prop := if ¬ (0 ≤ k ∧ k ≤ aRc A) then e = -2 ∧ A' = A else e = aRc A - k ∧ A' = sRd A (aRc A - k) (nrm (aRc A - k) (aRt A)) (nrm (aRc A - k) (aRl A))
def alA (A : AV) : Nat → Int → Bool := fun t cc => (List.range 8).all fun k => !(decide ((k : Int) < aRc A)) || (!(decide (aRt A k = (t : Int))) || decide (aRl A k = cc))
def spWays (A : AV) (n q e : Int) : Prop :=
  if ¬ ((0 ≤ n ∧ n ≤ 7) ∧ -1 ≤ q ∧ q ≤ 6) then e = -2 else if rN (aR A) = 0 then e = -3
  else if q = -1 then e = wayF (aR A) (alA A) n.toNat n.toNat (aP A)
  else if wayF (aR A) (alA A) n.toNat n.toNat (aP A) = 0 then e = -9
  else e = if q < n then fstW (aR A) (wayF (aR A) (alA A) n.toNat (n.toNat - q.toNat - 1)) (sptW (aR A) (alA A) n.toNat (aP A) q.toNat) else -9
def orM (p : Nat → Prop) [DecidablePred p] : Nat → Nat
  | 0 => 0
  | k + 1 => if p k then orM p k ||| 2 ^ k else orM p k
def chkFor (A : AV) (c s l i n up : Int) : Int × Int :=
  if ¬ ((0 ≤ c ∧ c < rN (aR A)) ∧ 0 ≤ s ∧ s ≤ 3) then (-1, 0) else if ¬ ((0 ≤ l ∧ l ≤ 2) ∧ (0 ≤ n ∧ n ≤ 9) ∧ 0 ≤ up ∧ up ≤ 1000000000) then (-2, 0)
  else if (chkActs A s.toNat l i n).1 ≠ 0 then chkActs A s.toNat l i n else if (runA A s.toNat i n).2 ≠ -9 then (-100 - (runA A s.toNat i n).2, 0) else (0, 0)
def spKinds (A : AV) (c s l i n up e : Int) (A' : AV) : Prop :=
  A' = sFa A (chkFor A c s l i n up).2 ∧ e = if (chkFor A c s l i n up).1 ≠ 0 then (chkFor A c s l i n up).1 else ((orM (fun k => dryA A s.toNat i n c (holdK (rD (aR A) c.toNat) (k : Int) (rM (aR A) c.toNat)) = up) 3 : Nat) : Int)
def spMuds (A : AV) (c s l i n up e : Int) (A' : AV) : Prop :=
  A' = sFa A (chkFor A c s l i n up).2 ∧ e = if (chkFor A c s l i n up).1 ≠ 0 then (chkFor A c s l i n up).1 else ((orM (fun k => dryA A s.toNat i n c (holdK (rD (aR A) c.toNat) (rK (aR A) c.toNat) (k : Int)) = up) 10 : Nat) : Int)
def spSheet (A : AV) (k l n e : Int) (A' : AV) : Prop :=
  if ¬ (0 ≤ k ∧ k ≤ 3) then e = -1 ∧ A' = sFa A 0 else if ¬ ((0 ≤ l ∧ l ≤ 2) ∧ n ≤ 60) then e = -2 ∧ A' = sFa A 0 else if n < 0 then e = -14 ∧ A' = sFa A 4
  else e = 1 ∧ A' = sSh (sFa A 0) (va_up (aLan A) k.toNat l) (va_up (aLen A) k.toNat n) (va_up (aNum A) k.toNat (fun _ => 0))
def spLose (A : AV) (k e : Int) (A' : AV) : Prop :=
  if ¬ (0 ≤ k ∧ k ≤ 3) then e = -1 ∧ A' = A else (e = if aLan A k.toNat = -1 then 0 else 1) ∧ A' = sSh A (va_up (aLan A) k.toNat (-1)) (va_up (aLen A) k.toNat 0) (va_up (aNum A) k.toNat (fun _ => 0))
def spPut (A : AV) (k i v e : Int) (A' : AV) : Prop :=
  if ¬ (0 ≤ k ∧ k ≤ 3) then e = -1 ∧ A' = sFa A 0 else if aLan A k.toNat = -1 then e = -11 ∧ A' = sFa A 1 else if ¬ (0 ≤ i ∧ i < aLen A k.toNat) then e = -13 ∧ A' = sFa A 3
  else e = 1 ∧ A' = sSh (sFa A 0) (aLan A) (aLen A) (va_up (aNum A) k.toNat (va_up (aNum A k.toNat) i.toNat (cutL (aLan A k.toNat) v)))
def spCell (A : AV) (k i l e : Int) (A' : AV) : Prop :=
  if ¬ ((0 ≤ k ∧ k ≤ 3) ∧ 0 ≤ l ∧ l ≤ 2) then e = LOSTz ∧ A' = sFa A 0 else if aLan A k.toNat = -1 then e = LOSTz ∧ A' = sFa A 1 else if aLan A k.toNat ≠ l then e = LOSTz ∧ A' = sFa A 2
  else if ¬ (0 ≤ i ∧ i < aLen A k.toNat) then e = LOSTz ∧ A' = sFa A 3 else e = aNum A k.toNat i.toNat ∧ A' = sFa A 0
def cpyN (f g : Nat → Int) (sp dp n : Nat) : Nat → Int := fun k => if dp ≤ k ∧ k < dp + n then f (sp + (k - dp)) else g k
def spCopy (A : AV) (k i o j n e : Int) (A' : AV) : Prop :=
  if ¬ ((0 ≤ k ∧ k ≤ 3) ∧ 0 ≤ o ∧ o ≤ 3) then e = -1 ∧ A' = sFa A 0 else if aLan A k.toNat = -1 ∨ aLan A o.toNat = -1 then e = -11 ∧ A' = sFa A 1 else if aLan A k.toNat ≠ aLan A o.toNat then e = -12 ∧ A' = sFa A 2
  else if ¬ ((0 ≤ i ∧ 0 ≤ n ∧ i + n ≤ aLen A k.toNat) ∧ 0 ≤ j ∧ j + n ≤ aLen A o.toNat) then e = -13 ∧ A' = sFa A 3
  else e = n ∧ A' = sSh (sFa A 0) (aLan A) (aLen A) (va_up (aNum A) o.toNat (cpyN (aNum A k.toNat) (aNum A o.toNat) i.toNat j.toNat n.toNat))
def trs (t : Int) : List Int → Int
  | [] => t
  | k :: r => trs (31 * t + k) r
def spTell (A : AV) (c e : Int) (A' : AV) : Prop :=
  if ¬ (0 ≤ c ∧ c < rN (aR A)) then e = -1 ∧ A' = A
  else if rK (aR A) c.toNat = 2 then e = 2 * rM (aR A) c.toNat + 100 ∧ A' = sTr A (trs (aTr A) [3, 2, 1, 1])
  else if rK (aR A) c.toNat = 1 then e = rM (aR A) c.toNat + 100 ∧ A' = sTr A (trs (aTr A) [2, 1])
  else e = rM (aR A) c.toNat ∧ A' = sTr A (trs (aTr A) [1])
def spSound (A : AV) (c e : Int) (A' : AV) : Prop :=
  if ¬ (0 ≤ c ∧ c < rN (aR A)) then e = -1 ∧ A' = A else if rK (aR A) c.toNat = 2 then e = 50 ∧ A' = sTr A (trs (aTr A) [5]) else e = c ∧ A' = sTr A (trs (aTr A) [4])
def spAs (A : AV) (c k e : Int) (A' : AV) : Prop :=
  if ¬ (0 ≤ c ∧ c < rN (aR A)) then e = -1 ∧ A' = sFa A 0 else if ¬ (0 ≤ k ∧ k ≤ 2) then e = -2 ∧ A' = sFa A 0 else if k ≤ rK (aR A) c.toNat then e = 1 ∧ A' = sFa A 0 else e = -12 ∧ A' = sFa A 2
def spMany (A : AV) (wh e : Int) : Prop := if wh = 0 then e = rN (aR A) else if wh = 1 then e = aP A else if wh = 2 then e = sumT (rB (aR A)) (rN (aR A)).toNat else if wh = 3 then e = aRc A else e = -2
