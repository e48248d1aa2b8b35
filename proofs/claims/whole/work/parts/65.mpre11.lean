theorem aftA_no {R : Rv} {act x t : Int} (hx : 0 ≤ x) (ht : 0 ≤ t ∧ t ≤ 3) (h : ¬ canB R act x t = true) : aftA R act (4 * x + t) = -1 := by
  unfold aftA
  rw [show (4 * x + t) / 4 = x by omega, show (4 * x + t) % 4 = t by omega, if_neg h]
theorem aftA_yes {R : Rv} {act x t : Int} (hx : 0 ≤ x) (ht : 0 ≤ t ∧ t ≤ 3) (h : canB R act x t = true) : aftA R act (4 * x + t) = 4 * celA (rN R) x (pacA act t) + pacA act t := by
  unfold aftA
  rw [show (4 * x + t) / 4 = x by omega, show (4 * x + t) % 4 = t by omega, if_pos h]
theorem celA_rng {R : Rv} {act x t : Int} (hx : 0 ≤ x) (ht : 0 ≤ t ∧ t ≤ 3) (h1 : 1 ≤ rN R) : 0 ≤ celA (rN R) x (pacA act t) ∧ celA (rN R) x (pacA act t) < rN R := by
  have hp := pacA_rng act t ht
  unfold celA
  omega
theorem byA_no {R : Rv} {B : Int → Int} {act x t : Int} (hx : 0 ≤ x) (ht : 0 ≤ t ∧ t ≤ 3) (h : ¬ canB R act x t = true) : byA R B act (4 * x + t) = 0 := by
  unfold byA
  rw [if_pos (aftA_no hx ht h)]
theorem byA_yes {R : Rv} {B : Int → Int} {act x t : Int} (hx : 0 ≤ x) (ht : 0 ≤ t ∧ t ≤ 3) (h1 : 1 ≤ rN R) (h : canB R act x t = true) : byA R B act (4 * x + t) = dten act (hold R x.toNat) * B (4 * celA (rN R) x (pacA act t) + pacA act t) := by
  have hc := celA_rng (R := R) (act := act) hx ht h1
  have hp := pacA_rng act t ht
  have ha := aftA_yes hx ht h
  unfold byA
  rw [if_neg (by omega), ha, show (4 * x + t) / 4 = x by omega]
theorem byA_tea {R : Rv} {B : Int → Int} {act s : Int} (hs : rN R - 1 ≤ s / 4) : byA R B act s = 0 := by
  have h : ¬ canB R act (s / 4) (s % 4) = true := fun q => absurd (canB_iff.mp q).1 (by omega)
  unfold byA aftA
  rw [if_neg h, if_pos rfl]
theorem max4_tea {R : Rv} {B : Int → Int} {s : Int} (hs : rN R - 1 ≤ s / 4) : ∀ a : Nat, max4 R B s a = 0
  | 0 => rfl
  | a + 1 => by rw [max4, max4_tea hs a, byA_tea hs]; rfl
theorem bestF_tea {R : Rv} {t : Nat} {s : Int} (ht : 1 ≤ t) (hs : rN R - 1 ≤ s / 4) : bestF R t s = 0 := by
  rw [show t = (t - 1) + 1 by omega, bestF]
  exact max4_tea hs 4
theorem surT_1 {R : Rv} {p : Int} {k : Nat} : (surT R p (k + 1)).1 = max (surT R p k).1 (bestF R (k + 1) p * 10 ^ (11 - k)) := by
  rw [surT]
  by_cases h : (surT R p k).1 < bestF R (k + 1) p * 10 ^ (11 - k)
  · rw [if_pos h]
    show bestF R (k + 1) p * 10 ^ (11 - k) = _
    omega
  · rw [if_neg h]
    omega
theorem surT_2 {R : Rv} {p : Int} {k : Nat} : ((surT R p k).1 < bestF R (k + 1) p * 10 ^ (11 - k) → (surT R p (k + 1)).2 = ((k + 1 : Nat) : Int)) ∧ (¬ (surT R p k).1 < bestF R (k + 1) p * 10 ^ (11 - k) → (surT R p (k + 1)).2 = (surT R p k).2) := by
  rw [surT]
  constructor
  · intro h
    rw [if_pos h]
  · intro h
    rw [if_neg h]
def ntA (t : Int) : Int := if t = 0 then -9 else t
theorem vM_9 {mi : Nat → Int} {ma ya : Nat → Nat → Int} (h : ∀ k, k ≠ 9 → ya k = ma k) : vM mi ya = vM mi ma := by
  rw [vM_fr (mi := mi) (ma := ma) rfl rfl rfl (fun k hk => h k (by omega))]
  rfl
theorem MOk_9 {mi : Nat → Int} {ma ya : Nat → Nat → Int} (hO : MOk mi ma) (h : ∀ k, k ≠ 9 → ya k = ma k) : MOk mi ya :=
  MOk_fr hO rfl rfl rfl (fun k hk => h k (by omega)) hO.2.2.2.2.2.2.2
theorem rvM_9 {mi : Nat → Int} {ma ya : Nat → Nat → Int} (h : ∀ k, k ≠ 9 → ya k = ma k) : rvM mi ya = rvM mi ma :=
  rvM_eq rfl (h 1 (by decide)) (h 2 (by decide)) (h 3 (by decide)) (h 4 (by decide))
theorem MRv_9 {mi : Nat → Int} {ma ya : Nat → Nat → Int} (hR : MRv mi ma) (h : ∀ k, k ≠ 9 → ya k = ma k) : MRv mi ya :=
  MRv_eq rfl rfl (h 1 (by decide)) (h 2 (by decide)) (h 3 (by decide)) (h 4 (by decide)) hR
