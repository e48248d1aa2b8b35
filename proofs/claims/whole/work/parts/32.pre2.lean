/-! the text from an empty or a used draft; the journey's facts; the view after bigger changes -/
theorem mrun_congr {σ0 : MS} {g h : Nat → Int} : ∀ {t : Nat}, (∀ k, k < t → g k = h k) → mrun σ0 g t = mrun σ0 h t
  | 0, _ => rfl
  | t + 1, H => by rw [mrun, mrun, mrun_congr (fun k hk => H k (by omega)), H t (by omega)]
theorem mend_congr {σ0 σ : MS} {g h : Nat → Int} {t : Nat} {e : Int} (H : ∀ k, k < t → g k = h k) (hm : mend σ0 g t e σ) : mend σ0 h t e σ := by
  unfold mend at hm ⊢
  rw [← mrun_congr H]
  exact hm
def eqB (n : Int) (g h : Nat → Int) : Prop := ∀ k : Nat, (k : Int) < n → g k = h k
def msE : MS → MS → Prop
  | (t, p, n, K, M, D, B), (t', p', n', K', M', D', B') => (t = t' ∧ p = p' ∧ n = n' ∧ 0 ≤ n) ∧ eqB n K K' ∧ eqB n M M' ∧ eqB n D D' ∧ eqB n B B'
theorem eqB_add {n : Int} {g h : Nat → Int} {v : Int} (hn : 0 ≤ n) (H : eqB n g h) : eqB (n + 1) (va_up g n.toNat v) (va_up h n.toNat v) := by
  intro k hk
  by_cases hq : k = n.toNat
  · rw [hq, up_s, up_s]
  · rw [up_n hq, up_n hq]
    exact H k (by omega)
theorem eqB_up {n : Int} {g h : Nat → Int} {i : Nat} {v : Int} (H : eqB n g h) : eqB n (va_up g i v) (va_up h i v) := by
  intro k hk
  by_cases hq : k = i
  · rw [hq, up_s, up_s]
  · rw [up_n hq, up_n hq]
    exact H k hk
def oE : Option MS → Option MS → Prop
  | none, none => True
  | some a, some b => msE a b
  | _, _ => False
theorem mcell_sim {σ τ : MS} (k d : Int) (h : msE σ τ) : oE (mcell k d σ) (mcell k d τ) := by
  obtain ⟨t, p, n, K, M, D, B⟩ := σ
  obtain ⟨t', p', n', K', M', D', B'⟩ := τ
  obtain ⟨⟨h1, h2, h3, h4⟩, g1, g2, g3, g4⟩ := h
  subst h1 h2 h3
  unfold mcell
  dsimp only
  by_cases hn : n < 16
  · rw [if_pos hn, if_pos hn]
    exact ⟨⟨rfl, rfl, rfl, by omega⟩, eqB_add h4 g1, eqB_add h4 g2, eqB_add h4 g3, eqB_add h4 g4⟩
  · rw [if_neg hn, if_neg hn]
    trivial
theorem mletter_sim {σ τ : MS} (c : Int) (h : msE σ τ) : oE (mletter c σ) (mletter c τ) := by
  unfold mletter
  split
  · exact mcell_sim _ _ h
  · split
    · exact mcell_sim _ _ h
    · split
      · exact mcell_sim _ _ h
      · split
        · exact mcell_sim _ _ h
        · trivial
theorem mpace_sim {σ τ : MS} (c : Int) (h : msE σ τ) : oE (mpace c σ) (mpace c τ) := by
  obtain ⟨t, p, n, K, M, D, B⟩ := σ
  obtain ⟨t', p', n', K', M', D', B'⟩ := τ
  obtain ⟨⟨h1, h2, h3, h4⟩, g1, g2, g3, g4⟩ := h
  subst h1 h2 h3
  unfold mpace
  dsimp only
  by_cases hn : 0 ≤ c ∧ c ≤ 3
  · rw [if_pos hn, if_pos hn]
    exact ⟨⟨rfl, rfl, rfl, h4⟩, g1, g2, g3, g4⟩
  · rw [if_neg hn, if_neg hn]
    trivial
theorem mmud_sim {σ τ : MS} (c : Int) (h : msE σ τ) : oE (mmud c σ) (mmud c τ) := by
  obtain ⟨t, p, n, K, M, D, B⟩ := σ
  obtain ⟨t', p', n', K', M', D', B'⟩ := τ
  obtain ⟨⟨h1, h2, h3, h4⟩, g1, g2, g3, g4⟩ := h
  subst h1 h2 h3
  unfold mmud
  dsimp only
  by_cases hn : 0 ≤ c ∧ c ≤ 9
  · rw [if_pos hn, if_pos hn]
    exact ⟨⟨rfl, rfl, rfl, h4⟩, g1, eqB_up g2, g3, g4⟩
  · rw [if_neg hn, if_neg hn]
    trivial
theorem mbrid_sim {σ τ : MS} (h : msE σ τ) : msE (mbrid σ) (mbrid τ) := by
  obtain ⟨t, p, n, K, M, D, B⟩ := σ
  obtain ⟨t', p', n', K', M', D', B'⟩ := τ
  obtain ⟨⟨h1, h2, h3, h4⟩, g1, g2, g3, g4⟩ := h
  subst h1 h2 h3
  exact ⟨⟨rfl, rfl, rfl, h4⟩, g1, g2, g3, eqB_up g4⟩
theorem msE_1 {σ τ : MS} (h : msE σ τ) : σ.1 = τ.1 := h.1.1
theorem mstep_sim {σ τ : MS} (c : Int) (h : msE σ τ) : oE (mstep c σ) (mstep c τ) := by
  unfold mstep
  rw [← msE_1 h]
  split
  · split
    · obtain ⟨t, p, n, K, M, D, B⟩ := σ
      obtain ⟨t', p', n', K', M', D', B'⟩ := τ
      obtain ⟨⟨h1, h2, h3, h4⟩, g⟩ := h
      exact ⟨⟨rfl, h2, h3, h4⟩, g⟩
    · trivial
  · split
    · exact mpace_sim _ h
    · split
      · exact mmud_sim _ h
      · split
        · split
          · exact mbrid_sim h
          · exact mletter_sim _ h
        · exact mletter_sim _ h
theorem mrun_sim {σ τ : MS} {g : Nat → Int} (h : msE σ τ) : ∀ t : Nat, (∃ k, mrun σ g t = .inr k ∧ mrun τ g t = .inr k) ∨ ∃ a b, mrun σ g t = .inl a ∧ mrun τ g t = .inl b ∧ msE a b
  | 0 => Or.inr ⟨σ, τ, rfl, rfl, h⟩
  | t + 1 => by
    rcases mrun_sim (g := g) h t with ⟨k, h1, h2⟩ | ⟨a, b, h1, h2, h3⟩
    · exact Or.inl ⟨k, by rw [mrun, h1], by rw [mrun, h2]⟩
    · have hs := mstep_sim (g t) h3
      cases ha : mstep (g t) a with
      | none => cases hb : mstep (g t) b with
        | none => exact Or.inl ⟨t, mrun_none h1 ha, mrun_none h2 hb⟩
        | some y => rw [ha, hb] at hs; exact hs.elim
      | some x => cases hb : mstep (g t) b with
        | none => rw [ha, hb] at hs; exact hs.elim
        | some y => rw [ha, hb] at hs; exact Or.inr ⟨x, y, mrun_some h1 ha, mrun_some h2 hb, hs⟩
theorem mend_sim {σ0 τ0 σ : MS} {g : Nat → Int} {n : Nat} {e : Int} (h : msE σ0 τ0) (hm : mend σ0 g n e σ) : ∃ τ : MS, mend τ0 g n e τ ∧ (e = -9 → msE σ τ) := by
  unfold mend at hm
  rcases mrun_sim (g := g) h n with ⟨k, h1, h2⟩ | ⟨a, b, h1, h2, h3⟩
  · rw [h1] at hm
    refine ⟨σ, ?_, fun q => ?_⟩
    · unfold mend
      rw [h2]
      exact hm
    · have hm2 : e = (k : Int) := hm
      omega
  · rw [h1] at hm
    have hab : a.1 = b.1 ∧ a.2.2.1 = b.2.2.1 := ⟨h3.1.1, h3.1.2.2.1⟩
    refine ⟨b, ?_, fun q => ?_⟩
    · unfold mend
      rw [h2]
      show ((b.1 = 4 ∨ b.1 = 5) ∧ 2 ≤ b.2.2.1 ∧ e = -9 ∧ b = b) ∨ (¬ ((b.1 = 4 ∨ b.1 = 5) ∧ 2 ≤ b.2.2.1) ∧ e = (n : Int))
      rw [← hab.1, ← hab.2]
      rcases hm with ⟨q1, q2, q3, q4⟩ | q
      · exact Or.inl ⟨q1, q2, q3, rfl⟩
      · exact Or.inr q
    · rcases hm with ⟨q1, q2, q3, q4⟩ | ⟨q1, q2⟩
      · rw [q4]; exact h3
      · omega
theorem nrm_eqB {n : Int} {g h : Nat → Int} (H : eqB n g h) : nrm n g = nrm n h := by
  funext k
  unfold nrm
  by_cases hk : (k : Int) < n
  · rw [if_pos hk, if_pos hk, H k hk]
  · rw [if_neg hk, if_neg hk]
theorem msE_rv {xi : Nat → Int} {xa : Nat → Nat → Int} {b : Nat} {τ : MS} (h : msE (mvX xi xa b) τ) : rvOf τ = rvX xi xa b ∧ τ.2.1 = xi (12 + b) ∧ τ.2.2.1 = xi (10 + b) := by
  obtain ⟨t', p', n', K', M', D', B'⟩ := τ
  obtain ⟨⟨h1, h2, h3, h4⟩, g1, g2, g3, g4⟩ := h
  refine ⟨?_, h2.symm, h3.symm⟩
  show ((n', nrm n' K', nrm n' M', nrm n' D', nrm n' B') : Rv) = (xi (10 + b), nrm (xi (10 + b)) (xa (4 + b)), nrm (xi (10 + b)) (xa (6 + b)), nrm (xi (10 + b)) (xa (8 + b)), nrm (xi (10 + b)) (xa (10 + b)))
  rw [← h3, nrm_eqB g1, nrm_eqB g2, nrm_eqB g3, nrm_eqB g4]
theorem msE_0 {K M D B : Nat → Int} : msE (0, 0, 0, K, M, D, B) msZ := ⟨⟨rfl, rfl, rfl, by omega⟩, fun k hk => absurd hk (by omega), fun k hk => absurd hk (by omega), fun k hk => absurd hk (by omega), fun k hk => absurd hk (by omega)⟩
/-! the refusals -/
theorem chkC_x {w : Nat} {xi : Nat → Int} {xa : Nat → Nat → Int} {j : Nat} {l i n : Int} (hj : j < 4) : chkCells (vX w xi xa) j l i n = if xi (2 + j) = -1 then (-11, 1) else if xi (2 + j) ≠ l then (-12, 2) else if n < 0 then (-14, 4) else if ¬ (0 ≤ i ∧ i + n ≤ xi (6 + j)) then (-13, 3) else (0, 0) := by
  unfold chkCells
  rw [vlan hj, vlen hj]
theorem chkA_cells {A : AV} {j : Nat} {l i n : Int} (h : (chkCells A j l i n).1 ≠ 0) : chkActs A j l i n = chkCells A j l i n := by
  unfold chkActs
  rw [if_pos h]
theorem chkA_bad {A : AV} {j : Nat} {l i n : Int} (h : (chkCells A j l i n).1 = 0) (hb : ∃ k : Nat, (k : Int) < n ∧ ¬ (0 ≤ actG A j i k ∧ actG A j i k ≤ 3)) : chkActs A j l i n = (-2, 0) := by
  obtain ⟨k, h1, h2⟩ := hb
  unfold chkActs
  rw [if_neg (by omega), if_pos (fun H => h2 (H k (by omega)))]
theorem chkA_ok {A : AV} {j : Nat} {l i n : Int} (h : (chkCells A j l i n).1 = 0) (hb : ∀ k : Nat, (k : Int) < n → 0 ≤ actG A j i k ∧ actG A j i k ≤ 3) : chkActs A j l i n = (0, 0) := by
  unfold chkActs
  rw [if_neg (by omega), if_neg (fun H => H (fun k hk => hb k (by omega)))]
theorem chk_0 {A : AV} {j : Nat} {l i n : Int} : ((chkCells A j l i n).1 = 0 → (chkCells A j l i n).2 = 0) ∧ ((chkActs A j l i n).1 = 0 → (chkActs A j l i n).2 = 0) := by
  have hc : (chkCells A j l i n).1 = 0 → (chkCells A j l i n).2 = 0 := by
    unfold chkCells
    split
    · intro h; exact absurd h (by decide)
    · split
      · intro h; exact absurd h (by decide)
      · split
        · intro h; exact absurd h (by decide)
        · split
          · intro h; exact absurd h (by decide)
          · intro _; rfl
  refine ⟨hc, ?_⟩
  unfold chkActs
  split
  · exact hc
  · split
    · intro h; exact absurd h (by decide)
    · intro _; rfl
theorem actG_x {w : Nat} {xi : Nat → Int} {xa : Nat → Nat → Int} {j k : Nat} {i n : Int} (hj : j < 4) (h : 0 ≤ i ∧ i + n ≤ xi (6 + j)) (hk : (k : Int) < n) : actG (vX w xi xa) j i k = xa j (i.toNat + k) := vnum hj (by omega)
theorem JF_of {w : Nat} {xi : Nat → Int} {xa : Nat → Nat → Int} {j : Nat} {i nn : Int} {yi zi : Nat → Int} {ya za : Nat → Nat → Int} (h15 : yi 15 = nn) (hnn : 0 ≤ nn) (hR : rvX yi ya w = rvX xi xa w) (hP : yi (12 + w) = xi (12 + w)) (hact : ∀ k : Nat, (k : Int) < nn → ya 12 k = actG (vX w xi xa) j i k) (g16 : zi 16 = (runS (rvX yi ya w) (ya 12) (yi (12 + w)) (yi 15).toNat).2) (g17 : (runS (rvX yi ya w) (ya 12) (yi (12 + w)) (yi 15).toNat).2 = -9 → zi 17 = (runS (rvX yi ya w) (ya 12) (yi (12 + w)) (yi 15).toNat).1 ∧ ∀ k : Nat, (k : Int) < yi 15 → za 13 k = cellS (rvX yi ya w) (ya 12) (yi (12 + w)) k) (gz : zi 15 = yi 15) (g12 : za 12 = ya 12) : JF (vX w xi xa) j i nn zi za := by
  have hrun : ∀ t : Nat, (t : Int) ≤ nn → runS (rvX yi ya w) (ya 12) (yi (12 + w)) t = runS (aR (vX w xi xa)) (actG (vX w xi xa) j i) (aP (vX w xi xa)) t := by
    intro t ht
    rw [hR, hP]
    exact runS_congr (fun k hk => hact k (by omega))
  have hru : runS (rvX yi ya w) (ya 12) (yi (12 + w)) (yi 15).toNat = runA (vX w xi xa) j i nn := by
    rw [h15]
    exact hrun _ (by omega)
  rw [hru] at g16 g17
  refine ⟨gz.trans h15, g16, fun q => ⟨(g17 q).1, fun k hk => ?_⟩, fun k hk => ?_⟩
  · rw [(g17 q).2 k (by omega)]
    unfold cellS cellA cellS
    rw [hrun k (by omega)]
  · rw [g12]; exact hact k hk
theorem vX_id {w : Nat} {xi yi : Nat → Int} {xa ya : Nat → Nat → Int} (hw : w < 2) (h0 : yi 0 = xi 0) (hx : ∀ k, (2 ≤ k ∧ k ≤ 13) ∨ k = 18 → yi k = xi k) (ha : ∀ k, k ≤ 11 ∨ k = 14 ∨ k = 15 → ya k = xa k) : vX w yi ya = sFa (vX w xi xa) (yi 1) := by
  rw [vX_fr hw hx ha, h0]
  rfl
/-- the view, when the other buffer and what is not seen have changed -/
theorem vX_dr {w : Nat} {xi yi : Nat → Int} {xa ya : Nat → Nat → Int} (h0 : yi 0 = xi 0) (hx : ∀ k, (2 ≤ k ∧ k ≤ 9) ∨ k = 10 + w ∨ k = 12 + w ∨ k = 18 → yi k = xi k) (ha : ∀ k, k < 4 ∨ k = 4 + w ∨ k = 6 + w ∨ k = 8 + w ∨ k = 10 + w ∨ k = 14 ∨ k = 15 → ya k = xa k) : vX w yi ya = sFa (vX w xi xa) (yi 1) := by
  refine av_ext h0 rfl ?_ (hx _ (by omega)) ?_ ?_ ?_ (hx _ (by omega)) ?_ ?_
  · exact rvX_eq (hx _ (by omega)) (ha _ (by omega)) (ha _ (by omega)) (ha _ (by omega)) (ha _ (by omega))
  · show lanX yi = lanX xi
    funext j
    unfold lanX
    by_cases hj : j < 4
    · rw [if_pos hj, if_pos hj, hx _ (by omega)]
    · rw [if_neg hj, if_neg hj]
  · show lenX yi = lenX xi
    funext j
    unfold lenX
    by_cases hj : j < 4
    · rw [if_pos hj, if_pos hj, hx _ (by omega)]
    · rw [if_neg hj, if_neg hj]
  · show numX yi ya = numX xi xa
    funext j
    unfold numX
    by_cases hj : j < 4
    · rw [if_pos hj, if_pos hj, hx _ (by omega), ha _ (by omega)]
    · rw [if_neg hj, if_neg hj]
  · show nrm (yi 18) (ya 14) = nrm (xi 18) (xa 14)
    rw [hx _ (by omega), ha _ (by omega)]
  · show nrm (yi 18) (ya 15) = nrm (xi 18) (xa 15)
    rw [hx _ (by omega), ha _ (by omega)]
