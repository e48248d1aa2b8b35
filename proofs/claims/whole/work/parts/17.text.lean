/-! the text: a machine that takes code by code -/
def wr (z : Int) : Int := (iI z).toInt
theorem iI_wr (z : Int) : iI z = iI (wr z) := (iI_self _).symm
theorem wr_rng (z : Int) : -2147483648 ≤ wr z ∧ wr z < 2147483648 := iI_rng _
abbrev MS : Type := Int × Int × Int × (Nat → Int) × (Nat → Int) × (Nat → Int) × (Nat → Int)
def mvX (xi : Nat → Int) (xa : Nat → Nat → Int) (b : Nat) : MS := (xi 14, xi (12 + b), xi (10 + b), xa (4 + b), xa (6 + b), xa (8 + b), xa (10 + b))
def mcell (kind deep : Int) : MS → Option MS
  | (_, p, n, K, M, D, B) => if n < 16 then some (if deep = 0 then 3 else 4, p, n + 1, va_up K n.toNat kind, va_up M n.toNat 0, va_up D n.toNat deep, va_up B n.toNat 0) else none
def mletter (code : Int) (σ : MS) : Option MS := if code = 99 then mcell 2 0 σ else if code = 100 then mcell 0 1 σ else if code = 103 then mcell 0 0 σ else if code = 109 then mcell 1 0 σ else none
def mpace (t : Int) : MS → Option MS
  | (_, _, n, K, M, D, B) => if 0 ≤ t ∧ t ≤ 3 then some (2, t, n, K, M, D, B) else none
def mmud (t : Int) : MS → Option MS
  | (_, p, n, K, M, D, B) => if 0 ≤ t ∧ t ≤ 9 then some (4, p, n, K, va_up M (n - 1).toNat t, D, B) else none
def mbrid : MS → MS
  | (_, p, n, K, M, D, B) => (5, p, n, K, M, D, va_up B (n - 1).toNat 1)
def mstep (code : Int) (σ : MS) : Option MS :=
  if σ.1 = 0 then (if code = 112 then some (1, σ.2) else none)
  else if σ.1 = 1 then mpace (wr (code - 48)) σ
  else if σ.1 = 3 then mmud (wr (code - 48)) σ
  else if σ.1 = 4 then (if code = 94 then some (mbrid σ) else mletter code σ)
  else mletter code σ
def RdOk (xi : Nat → Int) (xa : Nat → Nat → Int) (b : Nat) : Prop := RvOk xi xa b ∧ (0 ≤ xi 14 ∧ xi 14 ≤ 5) ∧ (3 ≤ xi 14 → 1 ≤ xi (10 + b))
def Fr (xi : Nat → Int) (xa : Nat → Nat → Int) (xi' : Nat → Int) (xa' : Nat → Nat → Int) (b : Nat) : Prop := (∀ k, k ≠ 14 → k ≠ 10 + b → k ≠ 12 + b → xi' k = xi k) ∧ ∀ k, k ≠ 4 + b → k ≠ 6 + b → k ≠ 8 + b → k ≠ 10 + b → xa' k = xa k
theorem Fr.rf {xi : Nat → Int} {xa : Nat → Nat → Int} {b : Nat} : Fr xi xa xi xa b := ⟨fun _ _ _ _ => rfl, fun _ _ _ _ _ => rfl⟩
theorem Fr.tr {x1 x2 x3 : Nat → Int} {a1 a2 a3 : Nat → Nat → Int} {b : Nat} (h : Fr x1 a1 x2 a2 b) (g : Fr x2 a2 x3 a3 b) : Fr x1 a1 x3 a3 b := ⟨fun k h1 h2 h3 => (g.1 k h1 h2 h3).trans (h.1 k h1 h2 h3), fun k h1 h2 h3 h4 => (g.2 k h1 h2 h3 h4).trans (h.2 k h1 h2 h3 h4)⟩
theorem mv_xi {xi : Nat → Int} {xa : Nat → Nat → Int} {b : Nat} (hb : b < 2) (c1 c2 c3 : Int) : mvX (va_up (va_up (va_up xi (10 + b) c1) (12 + b) c2) 14 c3) xa b = (c3, c2, c1, xa (4 + b), xa (6 + b), xa (8 + b), xa (10 + b)) := by
  match b, hb with
  | 0, _ => rfl
  | 1, _ => rfl
theorem mv_stage {xi : Nat → Int} {xa : Nat → Nat → Int} {b : Nat} (hb : b < 2) (t : Int) : mvX (va_up xi 14 t) xa b = (t, xi (12 + b), xi (10 + b), xa (4 + b), xa (6 + b), xa (8 + b), xa (10 + b)) := by
  match b, hb with
  | 0, _ => rfl
  | 1, _ => rfl
theorem mv_pace {xi : Nat → Int} {xa : Nat → Nat → Int} {b : Nat} (hb : b < 2) (t u : Int) : mvX (va_up (va_up xi (12 + b) u) 14 t) xa b = (t, u, xi (10 + b), xa (4 + b), xa (6 + b), xa (8 + b), xa (10 + b)) := by
  match b, hb with
  | 0, _ => rfl
  | 1, _ => rfl
theorem mv_cell {xi : Nat → Int} {xa : Nat → Nat → Int} {b : Nat} (hb : b < 2) (t u : Int) (i : Nat) (g1 g2 g3 g4 : Int) : mvX (va_up (va_up xi (10 + b) u) 14 t) (va_up (va_up (va_up (va_up xa (4 + b) (va_up (xa (4 + b)) i g1)) (6 + b) (va_up ((va_up xa (4 + b) (va_up (xa (4 + b)) i g1)) (6 + b)) i g2)) (8 + b) (va_up ((va_up (va_up xa (4 + b) (va_up (xa (4 + b)) i g1)) (6 + b) (va_up ((va_up xa (4 + b) (va_up (xa (4 + b)) i g1)) (6 + b)) i g2)) (8 + b)) i g3)) (10 + b) (va_up ((va_up (va_up (va_up xa (4 + b) (va_up (xa (4 + b)) i g1)) (6 + b) (va_up ((va_up xa (4 + b) (va_up (xa (4 + b)) i g1)) (6 + b)) i g2)) (8 + b) (va_up ((va_up (va_up xa (4 + b) (va_up (xa (4 + b)) i g1)) (6 + b) (va_up ((va_up xa (4 + b) (va_up (xa (4 + b)) i g1)) (6 + b)) i g2)) (8 + b)) i g3)) (10 + b)) i g4)) b = (t, xi (12 + b), u, va_up (xa (4 + b)) i g1, va_up (xa (6 + b)) i g2, va_up (xa (8 + b)) i g3, va_up (xa (10 + b)) i g4) := by
  match b, hb with
  | 0, _ => rfl
  | 1, _ => rfl
theorem mv_mud {xi : Nat → Int} {xa : Nat → Nat → Int} {b : Nat} (hb : b < 2) (t : Int) (i : Nat) (g : Int) : mvX (va_up xi 14 t) (va_up xa (6 + b) (va_up (xa (6 + b)) i g)) b = (t, xi (12 + b), xi (10 + b), xa (4 + b), va_up (xa (6 + b)) i g, xa (8 + b), xa (10 + b)) := by
  match b, hb with
  | 0, _ => rfl
  | 1, _ => rfl
theorem mv_brid {xi : Nat → Int} {xa : Nat → Nat → Int} {b : Nat} (hb : b < 2) (t : Int) (i : Nat) (g : Int) : mvX (va_up xi 14 t) (va_up xa (10 + b) (va_up (xa (10 + b)) i g)) b = (t, xi (12 + b), xi (10 + b), xa (4 + b), xa (6 + b), xa (8 + b), va_up (xa (10 + b)) i g) := by
  match b, hb with
  | 0, _ => rfl
  | 1, _ => rfl
def MsOk : MS → Prop
  | (t, p, n, K, M, D, B) => ((0 ≤ n ∧ n ≤ 16) ∧ (0 ≤ p ∧ p ≤ 3) ∧ (∀ k : Nat, 0 ≤ K k ∧ K k ≤ 2) ∧ (∀ k : Nat, 0 ≤ M k ∧ M k ≤ 9) ∧ (∀ k : Nat, D k = 0 ∨ D k = 1) ∧ ∀ k : Nat, B k = 0 ∨ B k = 1) ∧ (0 ≤ t ∧ t ≤ 5) ∧ (3 ≤ t → 1 ≤ n)
theorem RdOk_iff {xi : Nat → Int} {xa : Nat → Nat → Int} {b : Nat} : RdOk xi xa b ↔ MsOk (mvX xi xa b) := Iff.rfl
theorem up_rng {g : Nat → Int} {i : Nat} {v lo hi : Int} (h : ∀ k : Nat, lo ≤ g k ∧ g k ≤ hi) (hv : lo ≤ v ∧ v ≤ hi) : ∀ k : Nat, lo ≤ va_up g i v k ∧ va_up g i v k ≤ hi := by
  intro k
  by_cases hk : k = i
  · rw [hk, up_s]; exact hv
  · rw [up_n hk]; exact h k
theorem up_bit {g : Nat → Int} {i : Nat} {v : Int} (h : ∀ k : Nat, g k = 0 ∨ g k = 1) (hv : v = 0 ∨ v = 1) : ∀ k : Nat, va_up g i v k = 0 ∨ va_up g i v k = 1 := by
  intro k
  by_cases hk : k = i
  · rw [hk, up_s]; exact hv
  · rw [up_n hk]; exact h k
theorem mcell_ok {kind deep : Int} {σ τ : MS} (hk : 0 ≤ kind ∧ kind ≤ 2) (hd : deep = 0 ∨ deep = 1) (h : MsOk σ) (hs : mcell kind deep σ = some τ) : MsOk τ := by
  obtain ⟨t, p, n, K, M, D, B⟩ := σ
  obtain ⟨⟨h1, h2, h3, h4, h5, h6⟩, h7, h8⟩ := h
  unfold mcell at hs
  dsimp only at hs
  by_cases hn : n < 16
  · rw [if_pos hn] at hs
    cases hs
    refine ⟨⟨by omega, h2, up_rng h3 hk, up_rng h4 (by omega), up_bit h5 hd, up_bit h6 (Or.inl rfl)⟩, by split <;> omega, fun _ => by omega⟩
  · rw [if_neg hn] at hs
    cases hs
theorem mletter_ok {code : Int} {σ τ : MS} (h : MsOk σ) (hs : mletter code σ = some τ) : MsOk τ := by
  unfold mletter at hs
  split at hs
  · exact mcell_ok (by omega) (by omega) h hs
  · split at hs
    · exact mcell_ok (by omega) (by omega) h hs
    · split at hs
      · exact mcell_ok (by omega) (by omega) h hs
      · split at hs
        · exact mcell_ok (by omega) (by omega) h hs
        · cases hs
theorem mpace_ok {t : Int} {σ τ : MS} (h : MsOk σ) (hs : mpace t σ = some τ) : MsOk τ := by
  obtain ⟨t0, p, n, K, M, D, B⟩ := σ
  obtain ⟨⟨h1, h2, h3, h4, h5, h6⟩, h7, h8⟩ := h
  unfold mpace at hs
  dsimp only at hs
  by_cases hn : 0 ≤ t ∧ t ≤ 3
  · rw [if_pos hn] at hs
    cases hs
    exact ⟨⟨h1, hn, h3, h4, h5, h6⟩, by omega, fun q => absurd q (by omega)⟩
  · rw [if_neg hn] at hs
    cases hs
theorem mmud_ok {t : Int} {σ τ : MS} (hc : 3 ≤ σ.1) (h : MsOk σ) (hs : mmud t σ = some τ) : MsOk τ := by
  obtain ⟨t0, p, n, K, M, D, B⟩ := σ
  obtain ⟨⟨h1, h2, h3, h4, h5, h6⟩, h7, h8⟩ := h
  unfold mmud at hs
  dsimp only at hs
  by_cases hn : 0 ≤ t ∧ t ≤ 9
  · rw [if_pos hn] at hs
    cases hs
    exact ⟨⟨h1, h2, h3, up_rng h4 hn, h5, h6⟩, by omega, fun _ => h8 hc⟩
  · rw [if_neg hn] at hs
    cases hs
theorem mbrid_ok {σ : MS} (hc : 3 ≤ σ.1) (h : MsOk σ) : MsOk (mbrid σ) := by
  obtain ⟨t0, p, n, K, M, D, B⟩ := σ
  obtain ⟨⟨h1, h2, h3, h4, h5, h6⟩, h7, h8⟩ := h
  exact ⟨⟨h1, h2, h3, h4, h5, up_bit h6 (Or.inr rfl)⟩, by omega, fun _ => h8 hc⟩
theorem mstep_ok {code : Int} {σ τ : MS} (h : MsOk σ) (hs : mstep code σ = some τ) : MsOk τ := by
  unfold mstep at hs
  split at hs
  · split at hs
    · cases hs
      obtain ⟨t0, p, n, K, M, D, B⟩ := σ
      exact ⟨h.1, by omega, fun q => absurd q (by omega)⟩
    · cases hs
  · split at hs
    · exact mpace_ok h hs
    · split at hs
      · exact mmud_ok (by omega) h hs
      · split at hs
        · split at hs
          · cases hs
            exact mbrid_ok (by omega) h
          · exact mletter_ok h hs
        · exact mletter_ok h hs
/-- the machine over the first k codes: a state, or the place where it fell -/
def mrun (σ0 : MS) (g : Nat → Int) : Nat → MS ⊕ Nat
  | 0 => .inl σ0
  | k + 1 => match mrun σ0 g k with
    | .inr j => .inr j
    | .inl σ => match mstep (g k) σ with
      | some τ => .inl τ
      | none => .inr k
theorem mrun_fell {σ0 : MS} {g : Nat → Int} {k j : Nat} (h : mrun σ0 g k = .inr j) : ∀ d : Nat, mrun σ0 g (k + d) = .inr j
  | 0 => h
  | d + 1 => by
    rw [show k + (d + 1) = (k + d) + 1 from rfl, mrun, mrun_fell h d]
theorem mrun_some {σ0 : MS} {g : Nat → Int} {k : Nat} {σ τ : MS} (h : mrun σ0 g k = .inl σ) (hs : mstep (g k) σ = some τ) : mrun σ0 g (k + 1) = .inl τ := by
  rw [mrun, h]
  dsimp only
  rw [hs]
theorem mrun_none {σ0 : MS} {g : Nat → Int} {k : Nat} {σ : MS} (h : mrun σ0 g k = .inl σ) (hs : mstep (g k) σ = none) : mrun σ0 g (k + 1) = .inr k := by
  rw [mrun, h]
  dsimp only
  rw [hs]
/-- what a text is answered with: its first fault, or that it is taken -/
def mend (σ0 : MS) (g : Nat → Int) (n : Nat) (e : Int) (σ' : MS) : Prop := match mrun σ0 g n with
  | .inr k => e = (k : Int)
  | .inl σ => ((σ.1 = 4 ∨ σ.1 = 5) ∧ 2 ≤ σ.2.2.1 ∧ e = -9 ∧ σ' = σ) ∨ (¬ ((σ.1 = 4 ∨ σ.1 = 5) ∧ 2 ≤ σ.2.2.1) ∧ e = (n : Int))
theorem RowOk.fr {xi : Nat → Int} {xa : Nat → Nat → Int} {yi : Nat → Int} {ya : Nat → Nat → Int} {b j : Nat} (hj : j < 4) (hb : b < 2) (h : Fr xi xa yi ya b) (hR : RowOk xi xa j) : RowOk yi ya j ∧ yi (6 + j) = xi (6 + j) ∧ ya j = xa j := by
  obtain ⟨h1, h2⟩ := h
  have a1 := h1 (2 + j) (by omega) (by omega) (by omega)
  have a2 := h1 (6 + j) (by omega) (by omega) (by omega)
  have a3 := h2 j (by omega) (by omega) (by omega) (by omega)
  refine ⟨?_, a2, a3⟩
  unfold RowOk
  rw [a1, a2, a3]
  exact hR
