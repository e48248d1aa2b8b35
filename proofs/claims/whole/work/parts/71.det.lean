/-! each call's words fix its answer, and what is seen behind it -/
theorem ite2 {c : Prop} [Decidable c] {P Q P' Q' G : Prop} (h : if c then P else Q) (h' : if c then P' else Q') (k1 : P → P' → G) (k2 : Q → Q' → G) : G := by
  by_cases hc : c
  · rw [if_pos hc] at h h'
    exact k1 h h'
  · rw [if_neg hc] at h h'
    exact k2 h h'
theorem eq2 {α β : Type} {e e' x : α} {B B' y : β} (a : e = x ∧ B = y) (b : e' = x ∧ B' = y) : e = e' ∧ B = B' := ⟨a.1.trans b.1.symm, a.2.trans b.2.symm⟩
theorem eq1 {α : Type} {e e' x : α} (a : e = x) (b : e' = x) : e = e' := a.trans b.symm
theorem mend_det {σ0 σ σ' : MS} {g : Nat → Int} {n : Nat} {r r' : Int} (h : mend σ0 g n r σ) (h' : mend σ0 g n r' σ') : r = r' ∧ (r = -9 → σ = σ') := by
  unfold mend at h h'
  cases hm : mrun σ0 g n with
  | inr k =>
    rw [hm] at h h'
    have h1 : r = (k : Int) := h
    have h2 : r' = (k : Int) := h'
    exact ⟨by omega, fun q => absurd q (by omega)⟩
  | inl τ =>
    rw [hm] at h h'
    rcases h with ⟨a1, a2, a3, a4⟩ | ⟨a1, a2⟩
    · rcases h' with ⟨b1, b2, b3, b4⟩ | ⟨b1, b2⟩
      · exact ⟨by omega, fun _ => by rw [a4, b4]⟩
      · exact absurd ⟨a1, a2⟩ b1
    · rcases h' with ⟨b1, b2, b3, b4⟩ | ⟨b1, b2⟩
      · exact absurd ⟨b1, b2⟩ a1
      · exact ⟨by omega, fun q => absurd q (by omega)⟩
theorem soonX_det {R : Rv} {p e e' : Int} (h : soonX R p e) (h' : soonX R p e') : e = e' := by
  rcases h with ⟨a1, a2, a3, a4⟩ | ⟨a1, a2⟩
  · rcases h' with ⟨b1, b2, b3, b4⟩ | ⟨b1, b2⟩
    · rcases Int.lt_trichotomy e e' with q | q | q
      · exact absurd (b4 e.toNat (by omega) (by omega)) a3
      · exact q
      · exact absurd (a4 e'.toNat (by omega) (by omega)) b3
    · exact absurd (b2 e.toNat (by omega) (by omega)) a3
  · rcases h' with ⟨b1, b2, b3, b4⟩ | ⟨b1, b2⟩
    · exact absurd (a2 e'.toNat (by omega) (by omega)) b3
    · omega
theorem dt_river {A B B' : AV} {s l i n e e' : Int} (h : spRiver A s l i n e B) (h' : spRiver A s l i n e' B') : e = e' ∧ B = B' := by
  unfold spRiver at h h'
  refine ite2 h h' eq2 (fun h h' => ite2 h h' eq2 (fun h h' => ite2 h h' eq2 (fun h h' => ?_)))
  obtain ⟨r, σ, h1, h2⟩ := h
  obtain ⟨r', σ', h1', h2'⟩ := h'
  obtain ⟨d1, d2⟩ := mend_det h1 h1'
  rcases h2 with ⟨a1, a2, a3⟩ | ⟨a1, a2, a3⟩
  · rcases h2' with ⟨b1, b2, b3⟩ | ⟨b1, b2, b3⟩
    · exact ⟨by omega, by rw [a3, b3]⟩
    · exact absurd b1 (by omega)
  · rcases h2' with ⟨b1, b2, b3⟩ | ⟨b1, b2, b3⟩
    · exact absurd a1 (by omega)
    · have hs := d2 a1
      exact ⟨by rw [a2, b2, hs], by rw [a3, b3, hs]⟩
theorem dt_ofCell {A : AV} {c k e e' : Int} (h : spOfCell A c k e) (h' : spOfCell A c k e') : e = e' := by
  unfold spOfCell at h h'
  exact ite2 h h' eq1 (fun h h' => ite2 h h' eq1 (fun h h' => ite2 h h' eq1 (fun h h' => ite2 h h' eq1 (fun h h' => ite2 h h' eq1 (fun h h' => ite2 h h' eq1 eq1)))))
theorem dt_pace {A B B' : AV} {v e e' : Int} (h : spPace A v e B) (h' : spPace A v e' B') : e = e' ∧ B = B' := by
  unfold spPace at h h'
  exact ite2 h h' eq2 (fun h h' => ite2 h h' eq2 eq2)
theorem dt_bridge {A B B' : AV} {c b e e' : Int} (h : spBridge A c b e B) (h' : spBridge A c b e' B') : e = e' ∧ B = B' := by
  unfold spBridge at h h'
  exact ite2 h h' eq2 (fun h h' => ite2 h h' eq2 eq2)
theorem dt_plan {A B B' : AV} {s l i n k e e' : Int} (h : spPlan A s l i n k e B) (h' : spPlan A s l i n k e' B') : e = e' ∧ B = B' := by
  unfold spPlan at h h'
  exact ite2 h h' eq2 (fun h h' => ⟨ite2 h.2 h'.2 eq1 (fun h h' => ite2 h h' eq1 (fun h h' => ite2 h h' eq1 eq1)), eq1 h.1 h'.1⟩)
theorem dt_dry {A B B' : AV} {s l i n k e e' : Int} (h : spDry A s l i n k e B) (h' : spDry A s l i n k e' B') : e = e' ∧ B = B' := by
  unfold spDry at h h'
  exact ⟨ite2 h.2 h'.2 eq1 eq1, eq1 h.1 h'.1⟩
theorem dt_odds {A B B' : AV} {s l i n k e e' : Int} (h : spOdds A s l i n k e B) (h' : spOdds A s l i n k e' B') : e = e' ∧ B = B' := by
  unfold spOdds at h h'
  exact ⟨ite2 h.2 h'.2 eq1 eq1, eq1 h.1 h'.1⟩
theorem dt_soonest {A : AV} {e e' : Int} (h : spSoonest A e) (h' : spSoonest A e') : e = e' := by
  unfold spSoonest at h h'
  exact ite2 h h' eq1 soonX_det
theorem dt_surest {A : AV} {n q e e' : Int} (h : spSurest A n q e) (h' : spSurest A n q e') : e = e' := by
  unfold spSurest at h h'
  exact ite2 h h' eq1 (fun h h' => ite2 h h' eq1 (fun h h' => ite2 h h' eq1 (fun h h' => ite2 h h' eq1 eq1)))
theorem dt_sure {A : AV} {n q e e' : Int} (h : spSure A n q e) (h' : spSure A n q e') : e = e' := by
  unfold spSure at h h'
  exact ite2 h h' eq1 (fun h h' => ite2 h h' eq1 eq1)
theorem dt_cost {A : AV} {c e e' : Int} (h : spCost A c e) (h' : spCost A c e') : e = e' := by
  unfold spCost at h h'
  refine ite2 h h' eq1 (fun h h' => ite2 h h' eq1 (fun h h' => ?_))
  obtain ⟨x, y, h1, h2, h3⟩ := h
  obtain ⟨x', y', h1', h2', h3'⟩ := h'
  rw [h3, h3', soonX_det h1 h1', soonX_det h2 h2']
theorem dt_reading {A B B' : AV} {t c e e' : Int} (h : spReading A t c e B) (h' : spReading A t c e' B') : e = e' ∧ B = B' := by
  unfold spReading at h h'
  exact ite2 h h' eq2 (fun h h' => ite2 h h' eq2 (fun h h' => ite2 h h' eq2 eq2))
theorem dt_back {A B B' : AV} {k e e' : Int} (h : spBack A k e B) (h' : spBack A k e' B') : e = e' ∧ B = B' := by
  unfold spBack at h h'
  exact ite2 h h' eq2 eq2
theorem dt_ways {A : AV} {n q e e' : Int} (h : spWays A n q e) (h' : spWays A n q e') : e = e' := by
  unfold spWays at h h'
  exact ite2 h h' eq1 (fun h h' => ite2 h h' eq1 (fun h h' => ite2 h h' eq1 (fun h h' => ite2 h h' eq1 eq1)))
theorem dt_kinds {A B B' : AV} {c s l i n u e e' : Int} (h : spKinds A c s l i n u e B) (h' : spKinds A c s l i n u e' B') : e = e' ∧ B = B' := ⟨eq1 h.2 h'.2, eq1 h.1 h'.1⟩
theorem dt_muds {A B B' : AV} {c s l i n u e e' : Int} (h : spMuds A c s l i n u e B) (h' : spMuds A c s l i n u e' B') : e = e' ∧ B = B' := ⟨eq1 h.2 h'.2, eq1 h.1 h'.1⟩
theorem dt_sheet {A B B' : AV} {k l n e e' : Int} (h : spSheet A k l n e B) (h' : spSheet A k l n e' B') : e = e' ∧ B = B' := by
  unfold spSheet at h h'
  exact ite2 h h' eq2 (fun h h' => ite2 h h' eq2 (fun h h' => ite2 h h' eq2 eq2))
theorem dt_lose {A B B' : AV} {k e e' : Int} (h : spLose A k e B) (h' : spLose A k e' B') : e = e' ∧ B = B' := by
  unfold spLose at h h'
  exact ite2 h h' eq2 eq2
theorem dt_put {A B B' : AV} {k i v e e' : Int} (h : spPut A k i v e B) (h' : spPut A k i v e' B') : e = e' ∧ B = B' := by
  unfold spPut at h h'
  exact ite2 h h' eq2 (fun h h' => ite2 h h' eq2 (fun h h' => ite2 h h' eq2 eq2))
theorem dt_cell {A B B' : AV} {k i l e e' : Int} (h : spCell A k i l e B) (h' : spCell A k i l e' B') : e = e' ∧ B = B' := by
  unfold spCell at h h'
  exact ite2 h h' eq2 (fun h h' => ite2 h h' eq2 (fun h h' => ite2 h h' eq2 (fun h h' => ite2 h h' eq2 eq2)))
theorem dt_copy {A B B' : AV} {k i o j n e e' : Int} (h : spCopy A k i o j n e B) (h' : spCopy A k i o j n e' B') : e = e' ∧ B = B' := by
  unfold spCopy at h h'
  exact ite2 h h' eq2 (fun h h' => ite2 h h' eq2 (fun h h' => ite2 h h' eq2 (fun h h' => ite2 h h' eq2 eq2)))
theorem dt_tell {A B B' : AV} {c e e' : Int} (h : spTell A c e B) (h' : spTell A c e' B') : e = e' ∧ B = B' := by
  unfold spTell at h h'
  exact ite2 h h' eq2 (fun h h' => ite2 h h' eq2 (fun h h' => ite2 h h' eq2 eq2))
theorem dt_sound {A B B' : AV} {c e e' : Int} (h : spSound A c e B) (h' : spSound A c e' B') : e = e' ∧ B = B' := by
  unfold spSound at h h'
  exact ite2 h h' eq2 (fun h h' => ite2 h h' eq2 eq2)
theorem dt_as {A B B' : AV} {c k e e' : Int} (h : spAs A c k e B) (h' : spAs A c k e' B') : e = e' ∧ B = B' := by
  unfold spAs at h h'
  exact ite2 h h' eq2 (fun h h' => ite2 h h' eq2 (fun h h' => ite2 h h' eq2 eq2))
theorem dt_many {A : AV} {k e e' : Int} (h : spMany A k e) (h' : spMany A k e') : e = e' := by
  unfold spMany at h h'
  exact ite2 h h' eq1 (fun h h' => ite2 h h' eq1 (fun h h' => ite2 h h' eq1 (fun h h' => ite2 h h' eq1 eq1)))
