theorem m_X8_goAll_f75 : Cond.fieldLink RX8 75 "PoleBehindModel" "cells" "I" ∈ wsX8_goAll := List.mem_of_getElem? (i := 3) rfl
theorem in_X8_goAll_X8 : ∀ w ∈ wsX80, w ∈ wsX8_goAll := fun _ h => List.mem_cons_of_mem _ (List.mem_append_right _ h)
theorem m_X8_goAll_f38 : Cond.fieldLink RX8 38 "PoleBehindModel" "isSeen" "[Z" ∈ wsX8_goAll := List.mem_of_getElem? (i := 2) rfl
theorem m_X8_goAll_f42 : Cond.fieldLink RX8 42 "PoleBehindModel" "isNext" "[Z" ∈ wsX8_goAll := List.mem_of_getElem? (i := 1) rfl
set_option maxHeartbeats 400000 in
set_option maxRecDepth 100000 in
theorem c_X8_goAll {l : Launch} {D : va_G} {cI cJ cZ cR : ClassId} {q : Nat → Nat} {mi : Nat → Int} {ma : Nat → Nat → Int} (hq : qOk 18 q)  (hR : MRv mi ma) (h1 : 1 ≤ mi 1) (hb : bitsN (ma 10) 64) : Cti l D vwCl (tysC cI cJ cZ cR) 18 q yX8_goAll wsX8_goAll ({ frames := 2, cells := 0, slots := 0, locals := 48 } : Room) [.ref (q 0)] (cM cI cJ cZ q mi ma) (fun (r : Int32) (g : Nat → va_E) => ∃ (ma' : Nat → Nat → Int), (((bitsN (ma' 10) 64 ∧ (∀ k, k ≠ 10 → k ≠ 11 → ma' k = ma k) ∧ (∀ j : Nat, j < 64 → (ma' 10 j = 1 ↔ ma 10 j = 1 ∨ ∃ s : Nat, (s : Int) < 4 * rN (rvM mi ma) ∧ ma 10 s = 1 ∧ stp (rvM mi ma) s j)) ∧ gaM (ma 10) (ma' 10) 1) ∧ r = iI 1) ∨ ((bitsN (ma' 10) 64 ∧ (∀ k, k ≠ 10 → k ≠ 11 → ma' k = ma k) ∧ (∀ j : Nat, j < 64 → (ma' 10 j = 1 ↔ ma 10 j = 1 ∨ ∃ s : Nat, (s : Int) < 4 * rN (rvM mi ma) ∧ ma 10 s = 1 ∧ stp (rvM mi ma) s j)) ∧ gaM (ma 10) (ma' 10) 0) ∧ r = iI 0)) ∧ g = (cM cI cJ cZ q mi ma')) := by
  refine Cti.of (cc := cX8_goAll) (nL := 6) (own := RX8) (ret := (some .boolean)) (by decide) rfl rfl hq (Nat.le_of_ble_eq_true rfl) (fun p e s m args below meth c => ?_)
  obtain ⟨hN, hP, hK, hM, hD, hB⟩ := id hR
  have hRM := MRv_M hR
  have hnn : rN (rvM mi ma) = mi 1 := rfl
  refine z_iconst dX8_goAll_0 ?_
  refine z_istore_n [(1, .int (iI 0)), (0, .ref (q 0))] dX8_goAll_1 rfl (by decide) rfl ?_
  refine z_iconst dX8_goAll_2 ?_
  refine z_istore_n [(2, .int (iI 0)), (1, .int (iI 0)), (0, .ref (q 0))] dX8_goAll_3 rfl (by decide) rfl ?_
  have hl_4 : ∀ (N_4 : Nat) (u : Int) (ya : Nat → Nat → Int), (65 - u).toNat < N_4 → (0 ≤ u ∧ u ≤ 64) → (∀ k, k ≠ 11 → ya k = ma k) → (∀ j : Nat, (j : Int) < u → ya 11 j = ma 10 j) → ZMi l D vwCl (tysC cI cJ cZ cR) 18 q ({ frames := 2, cells := 0, slots := 0, locals := 48 } : Room) cX8_goAll 6 RX8 wsX8_goAll (some .boolean) (fun (r : Int32) (g : Nat → va_E) => ∃ (ma' : Nat → Nat → Int), (((bitsN (ma' 10) 64 ∧ (∀ k, k ≠ 10 → k ≠ 11 → ma' k = ma k) ∧ (∀ j : Nat, j < 64 → (ma' 10 j = 1 ↔ ma 10 j = 1 ∨ ∃ s : Nat, (s : Int) < 4 * rN (rvM mi ma) ∧ ma 10 s = 1 ∧ stp (rvM mi ma) s j)) ∧ gaM (ma 10) (ma' 10) 1) ∧ r = iI 1) ∨ ((bitsN (ma' 10) 64 ∧ (∀ k, k ≠ 10 → k ≠ 11 → ma' k = ma k) ∧ (∀ j : Nat, j < 64 → (ma' 10 j = 1 ↔ ma 10 j = 1 ∨ ∃ s : Nat, (s : Int) < 4 * rN (rvM mi ma) ∧ ma 10 s = 1 ∧ stp (rvM mi ma) s j)) ∧ gaM (ma 10) (ma' 10) 0) ∧ r = iI 0)) ∧ g = (cM cI cJ cZ q mi ma')) p e s m args below meth c (cM cI cJ cZ q mi ya) 4 [(2, .int (iI u)), (1, .int (iI 0)), (0, .ref (q 0))] [] := by
    intro N_4
    induction N_4 with
    | zero => intro u ya hm; exact absurd hm (Nat.not_lt_zero _)
    | succ N_4 ih_4 =>
      intro u ya hm_4 hu hya h0
      refine z_iload_n (j := 0) dX8_goAll_4 rfl rfl ?_
      refine z_bipush dX8_goAll_5 (by decide) ?_
      refine z_icmp_ge (tgt := 28) dX8_goAll_7 (by decide) (by omega) (by decide) (fun c_7 => ?_) (fun c_7 => ?_)
      · refine z_iconst dX8_goAll_28 ?_
        refine z_istore_n [(2, .int (iI 0)), (1, .int (iI 0)), (0, .ref (q 0))] dX8_goAll_29 rfl (by decide) rfl ?_
        have hl_30 : ∀ (N_30 : Nat) (v : Int) (mf : Int) (ya : Nat → Nat → Int), (70 - v).toNat < N_30 → (0 ≤ v ∧ v ≤ 4 * mi 1) → (∀ k, k ≠ 11 → ya k = ma k) → (gaN (rvM mi ma) (ma 10) (ya 11) v 0) → (gaM (ma 10) (ya 11) mf) → (bitsN (ya 11) 64) → ZMi l D vwCl (tysC cI cJ cZ cR) 18 q ({ frames := 2, cells := 0, slots := 0, locals := 48 } : Room) cX8_goAll 6 RX8 wsX8_goAll (some .boolean) (fun (r : Int32) (g : Nat → va_E) => ∃ (ma' : Nat → Nat → Int), (((bitsN (ma' 10) 64 ∧ (∀ k, k ≠ 10 → k ≠ 11 → ma' k = ma k) ∧ (∀ j : Nat, j < 64 → (ma' 10 j = 1 ↔ ma 10 j = 1 ∨ ∃ s : Nat, (s : Int) < 4 * rN (rvM mi ma) ∧ ma 10 s = 1 ∧ stp (rvM mi ma) s j)) ∧ gaM (ma 10) (ma' 10) 1) ∧ r = iI 1) ∨ ((bitsN (ma' 10) 64 ∧ (∀ k, k ≠ 10 → k ≠ 11 → ma' k = ma k) ∧ (∀ j : Nat, j < 64 → (ma' 10 j = 1 ↔ ma 10 j = 1 ∨ ∃ s : Nat, (s : Int) < 4 * rN (rvM mi ma) ∧ ma 10 s = 1 ∧ stp (rvM mi ma) s j)) ∧ gaM (ma 10) (ma' 10) 0) ∧ r = iI 0)) ∧ g = (cM cI cJ cZ q mi ma')) p e s m args below meth c (cM cI cJ cZ q mi ya) 30 [(2, .int (iI v)), (1, .int (iI mf)), (0, .ref (q 0))] [] := by
          intro N_30
          induction N_30 with
          | zero => intro v mf ya hm; exact absurd hm (Nat.not_lt_zero _)
          | succ N_30 ih_30 =>
            intro v mf ya hm_30 hv hya hN2 hM2 hbn
            refine z_iload_n (j := 0) dX8_goAll_30 rfl rfl ?_
            refine z_iconst dX8_goAll_31 ?_
            refine z_aload_n (j := 2) dX8_goAll_32 rfl rfl ?_
            refine z_getf (i := 0) (ci := 8) (k := 1) (v := .int (iI (mi 1))) dX8_goAll_33 m_X8_goAll_f75 in_X8_goAll_X8 rfl (by decide) rfl (by omega) rfl rfl ?_
            refine z_imul dX8_goAll_36 ?_
            refine z_icmp_ge (tgt := 135) dX8_goAll_37 (by decide) (by omega) (by omega) (fun c_37 => ?_) (fun c_37 => ?_)
            · refine z_iconst dX8_goAll_135 ?_
              refine z_istore_n [(2, .int (iI 0)), (1, .int (iI mf)), (0, .ref (q 0))] dX8_goAll_136 rfl (by decide) rfl ?_
              have hl_137 : ∀ (N_137 : Nat) (u : Int) (za : Nat → Nat → Int), (65 - u).toNat < N_137 → (0 ≤ u ∧ u ≤ 64) → (∀ k, k ≠ 10 → za k = ya k) → (∀ j : Nat, (j : Int) < u → za 10 j = ya 11 j) → ZMi l D vwCl (tysC cI cJ cZ cR) 18 q ({ frames := 2, cells := 0, slots := 0, locals := 48 } : Room) cX8_goAll 6 RX8 wsX8_goAll (some .boolean) (fun (r : Int32) (g : Nat → va_E) => ∃ (ma' : Nat → Nat → Int), (((bitsN (ma' 10) 64 ∧ (∀ k, k ≠ 10 → k ≠ 11 → ma' k = ma k) ∧ (∀ j : Nat, j < 64 → (ma' 10 j = 1 ↔ ma 10 j = 1 ∨ ∃ s : Nat, (s : Int) < 4 * rN (rvM mi ma) ∧ ma 10 s = 1 ∧ stp (rvM mi ma) s j)) ∧ gaM (ma 10) (ma' 10) 1) ∧ r = iI 1) ∨ ((bitsN (ma' 10) 64 ∧ (∀ k, k ≠ 10 → k ≠ 11 → ma' k = ma k) ∧ (∀ j : Nat, j < 64 → (ma' 10 j = 1 ↔ ma 10 j = 1 ∨ ∃ s : Nat, (s : Int) < 4 * rN (rvM mi ma) ∧ ma 10 s = 1 ∧ stp (rvM mi ma) s j)) ∧ gaM (ma 10) (ma' 10) 0) ∧ r = iI 0)) ∧ g = (cM cI cJ cZ q mi ma')) p e s m args below meth c (cM cI cJ cZ q mi za) 137 [(2, .int (iI u)), (1, .int (iI mf)), (0, .ref (q 0))] [] := by
                intro N_137
                induction N_137 with
                | zero => intro u za hm; exact absurd hm (Nat.not_lt_zero _)
                | succ N_137 ih_137 =>
                  intro u za hm_137 hu2 hzo hz0
                  refine z_iload_n (j := 0) dX8_goAll_137 rfl rfl ?_
                  refine z_bipush dX8_goAll_138 (by decide) ?_
                  refine z_icmp_ge (tgt := 161) dX8_goAll_140 (by decide) (by omega) (by decide) (fun c_140 => ?_) (fun c_140 => ?_)
                  · refine z_iload_n (j := 1) dX8_goAll_161 rfl rfl ?_
                    exact z_zret dX8_goAll_162 (hM2.elim (fun h => Or.inr (by rw [h.1])) (fun h => Or.inl (by rw [h.1]))) ⟨za, by
      have hz1 : ∀ j : Nat, j < 64 → za 10 j = ya 11 j := fun j hj => hz0 j (by omega)
      have hbz : bitsN (za 10) 64 := fun j hj => by rw [hz1 j (by omega)]; exact hbn j hj
      have hko : ∀ k, k ≠ 10 → k ≠ 11 → za k = ma k := fun k a1 a2 => (hzo k a1).trans (hya k a2)
      have hve : v = 4 * rN (rvM mi ma) := by rw [hnn]; omega
      rw [hve] at hN2
      have hge : ∀ j : Nat, j < 64 → (za 10 j = 1 ↔ ma 10 j = 1 ∨ ∃ s : Nat, (s : Int) < 4 * rN (rvM mi ma) ∧ ma 10 s = 1 ∧ stp (rvM mi ma) s j) := fun j hj => by rw [hz1 j hj]; exact gaN_end (by rw [hnn]; omega) hN2 j hj
      have hgm := gaM_eq hz1 hM2
      rcases hM2 with ⟨h, _⟩ | ⟨h, _⟩
      · rw [h] at hgm
        exact Or.inl ⟨⟨hbz, hko, hge, hgm⟩, by rw [h]⟩
      · rw [h] at hgm
        exact Or.inr ⟨⟨hbz, hko, hge, hgm⟩, by rw [h]⟩, rfl⟩
                  · refine z_aload_n (j := 2) dX8_goAll_143 rfl rfl ?_
                    refine z_getf (i := 0) (ci := 8) (k := 20) (v := .ref (q 10)) dX8_goAll_144 m_X8_goAll_f38 in_X8_goAll_X8 rfl (by decide) rfl (by omega) rfl rfl ?_
                    refine z_iload_n (j := 0) dX8_goAll_147 rfl rfl ?_
                    refine z_aload_n (j := 2) dX8_goAll_148 rfl rfl ?_
                    refine z_getf (i := 0) (ci := 8) (k := 21) (v := .ref (q 11)) dX8_goAll_149 m_X8_goAll_f42 in_X8_goAll_X8 rfl (by decide) rfl (by omega) rfl rfl ?_
                    refine z_iload_n (j := 0) dX8_goAll_152 rfl rfl ?_
                    have hbz : za 11 u.toNat = 0 ∨ za 11 u.toNat = 1 := by rw [hzo 11 (by decide)]; exact hbn _ (by omega)
                    refine z_zald (i := 11) (g := za 11) 2 dX8_goAll_153 (by omega) rfl rfl (by omega) (by omega) (by omega) ?_
                    refine z_zast (i := 10) (g := za 10) 2 (cM cI cJ cZ q mi (va_up za 10 (va_up (za 10) u.toNat (za 11 u.toNat)))) dX8_goAll_154 (by omega) rfl rfl (by omega) (by omega) (by omega) (by omega) la_10 ?_
                    refine z_iinc (j := 0) [(2, .int (iI (u + 1))), (1, .int (iI mf)), (0, .ref (q 0))] dX8_goAll_155 rfl (by decide) rfl ?_
                    refine z_goto (tgt := 137) dX8_goAll_158 (by decide) ?_
                    exact z_sub [(2, .int (iI (u + 1))), (1, .int (iI mf)), (0, .ref (q 0))] [0, 1, 2] rfl (ih_137 (u + 1) (va_up za 10 (va_up (za 10) u.toNat (za 11 u.toNat))) (by omega) (by omega) (fun k hk => by rw [up_n hk]; exact hzo k hk) (fun j hj => by
            rw [up_s]
            by_cases hq : j = u.toNat
            · rw [hq, up_s, hzo 11 (by decide)]
            · rw [up_n hq]; exact hz0 j (by omega)))
              exact z_sub [(2, .int (iI 0)), (1, .int (iI mf)), (0, .ref (q 0))] [0, 1, 2] rfl (hl_137 _ 0 ya (Nat.lt_succ_self _) (by omega) (fun _ _ => rfl) (fun j hj => absurd hj (by omega)))
            · refine z_iconst dX8_goAll_40 ?_
              refine z_istore_n [(3, .int (iI 0)), (2, .int (iI v)), (1, .int (iI mf)), (0, .ref (q 0))] dX8_goAll_41 rfl (by decide) rfl ?_
              have hl_42 : ∀ (N_42 : Nat) (a : Int) (m2 : Int) (za : Nat → Nat → Int), (5 - a).toNat < N_42 → (0 ≤ a ∧ a ≤ 4) → (∀ k, k ≠ 11 → za k = ma k) → (gaN (rvM mi ma) (ma 10) (za 11) v a) → (gaM (ma 10) (za 11) m2) → (bitsN (za 11) 64) → ZMi l D vwCl (tysC cI cJ cZ cR) 18 q ({ frames := 2, cells := 0, slots := 0, locals := 48 } : Room) cX8_goAll 6 RX8 wsX8_goAll (some .boolean) (fun (r : Int32) (g : Nat → va_E) => ∃ (ma' : Nat → Nat → Int), (((bitsN (ma' 10) 64 ∧ (∀ k, k ≠ 10 → k ≠ 11 → ma' k = ma k) ∧ (∀ j : Nat, j < 64 → (ma' 10 j = 1 ↔ ma 10 j = 1 ∨ ∃ s : Nat, (s : Int) < 4 * rN (rvM mi ma) ∧ ma 10 s = 1 ∧ stp (rvM mi ma) s j)) ∧ gaM (ma 10) (ma' 10) 1) ∧ r = iI 1) ∨ ((bitsN (ma' 10) 64 ∧ (∀ k, k ≠ 10 → k ≠ 11 → ma' k = ma k) ∧ (∀ j : Nat, j < 64 → (ma' 10 j = 1 ↔ ma 10 j = 1 ∨ ∃ s : Nat, (s : Int) < 4 * rN (rvM mi ma) ∧ ma 10 s = 1 ∧ stp (rvM mi ma) s j)) ∧ gaM (ma 10) (ma' 10) 0) ∧ r = iI 0)) ∧ g = (cM cI cJ cZ q mi ma')) p e s m args below meth c (cM cI cJ cZ q mi za) 42 [(3, .int (iI a)), (2, .int (iI v)), (1, .int (iI m2)), (0, .ref (q 0))] [] := by
                intro N_42
                induction N_42 with
                | zero => intro a m2 za hm; exact absurd hm (Nat.not_lt_zero _)
                | succ N_42 ih_42 =>
                  intro a m2 za hm_42 ha hza hN3 hM3 hbn2
                  have hRz : MRv mi za := MRv_eq rfl rfl (hza 1 (by decide)) (hza 2 (by decide)) (hza 3 (by decide)) (hza 4 (by decide)) hR
                  have hEz : rvM mi za = (rvM mi ma) := rvM_eq rfl (hza 1 (by decide)) (hza 2 (by decide)) (hza 3 (by decide)) (hza 4 (by decide))
                  have hm01 : m2 = 0 ∨ m2 = 1 := hM3.elim (fun h => Or.inr h.1) (fun h => Or.inl h.1)
                  have hbv : za 10 v.toNat = 0 ∨ za 10 v.toNat = 1 := by rw [hza 10 (by decide)]; exact hb _ (by omega)
                  refine z_iload_n (j := 0) dX8_goAll_42 rfl rfl ?_
                  refine z_iconst dX8_goAll_43 ?_
                  refine z_icmp_ge (tgt := 129) dX8_goAll_44 (by decide) (by omega) (by decide) (fun c_44 => ?_) (fun c_44 => ?_)
                  · refine z_iinc (j := 1) [(2, .int (iI (v + 1))), (3, .int (iI a)), (1, .int (iI m2)), (0, .ref (q 0))] dX8_goAll_129 rfl (by decide) rfl ?_
                    refine z_goto (tgt := 30) dX8_goAll_132 (by decide) ?_
                    exact z_sub [(2, .int (iI (v + 1))), (1, .int (iI m2)), (0, .ref (q 0))] [0, 2, 3] rfl (ih_30 (v + 1) m2 za (by omega) (by omega) (hza) (gaN_row hv.1 hN3 (by first | exact Or.inl (by omega) | exact Or.inr ⟨by omega, by rw [← hza 10 (by decide)]; omega⟩)) (hM3) (hbn2))
                  · refine z_aload_n (j := 3) dX8_goAll_47 rfl rfl ?_
                    refine z_getf (i := 0) (ci := 8) (k := 20) (v := .ref (q 10)) dX8_goAll_48 m_X8_goAll_f38 in_X8_goAll_X8 rfl (by decide) rfl (by omega) rfl rfl ?_
                    refine z_iload_n (j := 1) dX8_goAll_51 rfl rfl ?_
                    refine z_zald (i := 10) (g := za 10) 2 dX8_goAll_52 (by omega) rfl rfl (by omega) (by omega) (by omega) ?_
                    refine z_if_eq (tgt := 129) dX8_goAll_53 (by decide) (by omega) (fun c_53 => ?_) (fun c_53 => ?_)
                    · refine z_iinc (j := 1) [(2, .int (iI (v + 1))), (3, .int (iI a)), (1, .int (iI m2)), (0, .ref (q 0))] dX8_goAll_129 rfl (by decide) rfl ?_
                      refine z_goto (tgt := 30) dX8_goAll_132 (by decide) ?_
                      exact z_sub [(2, .int (iI (v + 1))), (1, .int (iI m2)), (0, .ref (q 0))] [0, 2, 3] rfl (ih_30 (v + 1) m2 za (by omega) (by omega) (hza) (gaN_row hv.1 hN3 (by first | exact Or.inl (by omega) | exact Or.inr ⟨by omega, by rw [← hza 10 (by decide)]; omega⟩)) (hM3) (hbn2))
                    · have hf1 : ma 10 v.toNat = 1 := by
                        have g := hb v.toNat (by omega)
                        rw [hza 10 (by decide)] at c_53
                        omega
                      refine z_aload_n (j := 3) dX8_goAll_56 rfl rfl ?_
                      refine z_iload_n (j := 0) dX8_goAll_57 rfl rfl ?_
                      refine z_iload_n (j := 1) dX8_goAll_58 rfl rfl ?_
                      refine z_iconst dX8_goAll_59 ?_
                      refine z_idiv dX8_goAll_60 (by omega) (by omega) ?_
                      refine z_iload_n (j := 1) dX8_goAll_61 rfl rfl ?_
                      refine z_iconst dX8_goAll_62 ?_
                      refine z_irem dX8_goAll_63 (by omega) (by omega) ?_
                      refine z_callVi (i := 0) (ci := 8) (As := [.int (iI a), .int (iI (v / 4)), .int (iI (v % 4))]) (rest := []) (c_X8_canAct  hq hRz (by omega) (by omega) (by omega)) dX8_goAll_64 gX8_goAll_X8_canAct rfl cd_X8_canAct ⟨Nat.le_of_ble_eq_true rfl, Nat.le_of_ble_eq_true rfl⟩ rfl rfl (by omega) rfl rfl rfl (Nat.le_of_ble_eq_true rfl) ⟨Nat.zero_le _, Nat.zero_le _⟩ (fun r_64 g_64 hp_64 => ?_)
                      obtain ⟨⟨h_64, rfl⟩ | ⟨h_64, rfl⟩, rfl⟩ := hp_64
                      · refine z_if_eq (tgt := 123) dX8_goAll_67 (by decide) (by decide) (fun h => absurd h (by decide)) (fun _ => ?_)
                        rw [hEz] at h_64
                        refine z_iload_n (j := 0) dX8_goAll_70 rfl rfl ?_
                        refine z_iload_n (j := 1) dX8_goAll_71 rfl rfl ?_
                        refine z_iconst dX8_goAll_72 ?_
                        refine z_irem dX8_goAll_73 (by omega) (by omega) ?_
                        refine z_callSi (As := [.int (iI a), .int (iI (v % 4))]) (rest := []) (c_X8_paceBy  hq (by omega) (by omega)) dX8_goAll_74 gX8_goAll_X8_paceBy rfl cd_X8_paceBy ⟨Nat.le_of_ble_eq_true rfl, Nat.le_of_ble_eq_true rfl⟩ rfl rfl rfl (Nat.le_of_ble_eq_true rfl) ⟨Nat.zero_le _, Nat.zero_le _⟩ (fun r_74 g_74 hp_74 => ?_)
                        obtain ⟨⟨e_74, he_74, rfl⟩, rfl⟩ := hp_74
                        have h74 : e_74 = pacA a (v % 4) := he_74
                        have hpr := pacA_rng a (v % 4) (by omega)
                        rw [← h74] at hpr
                        refine z_istore [(4, .int (iI e_74)), (3, .int (iI a)), (2, .int (iI v)), (1, .int (iI m2)), (0, .ref (q 0))] dX8_goAll_77 (by decide) rfl ?_
                        refine z_iconst dX8_goAll_79 ?_
                        refine z_aload_n (j := 4) dX8_goAll_80 rfl rfl ?_
                        refine z_iload_n (j := 2) dX8_goAll_81 rfl rfl ?_
                        refine z_iconst dX8_goAll_82 ?_
                        refine z_idiv dX8_goAll_83 (by omega) (by omega) ?_
                        refine z_iload (j := 0) dX8_goAll_84 rfl ?_
                        refine z_callVi (i := 0) (ci := 8) (As := [.int (iI (v / 4)), .int (iI e_74)]) (rest := [.int (iI 4)]) (c_X8_cellBy  hq hRz (by omega) (by omega)) dX8_goAll_86 gX8_goAll_X8_cellBy rfl cd_X8_cellBy ⟨Nat.le_of_ble_eq_true rfl, Nat.le_of_ble_eq_true rfl⟩ rfl rfl (by omega) rfl rfl rfl (Nat.le_of_ble_eq_true rfl) ⟨Nat.zero_le _, Nat.zero_le _⟩ (fun r_86 g_86 hp_86 => ?_)
                        obtain ⟨⟨e_86, he_86, rfl⟩, rfl⟩ := hp_86
                        have h86 : e_86 = celA (mi 1) (v / 4) e_74 := he_86
                        have hcr := celA_rng (R := rvM mi ma) (act := a) (x := v / 4) (t := v % 4) (by omega) (by omega) (by rw [hnn]; omega)
                        rw [hnn, ← h74, ← h86] at hcr
                        have hx : aftA (rvM mi ma) a v = 4 * e_86 + e_74 := by
                          have g := aftA_yes (R := rvM mi ma) (act := a) (x := v / 4) (t := v % 4) (by omega) (by omega) h_64
                          rw [show 4 * (v / 4) + v % 4 = v by omega, hnn, ← h74, ← h86] at g
                          exact g
                        refine z_imul dX8_goAll_89 ?_
                        refine z_iload (j := 0) dX8_goAll_90 rfl ?_
                        refine z_iadd dX8_goAll_92 ?_
                        refine z_istore [(5, .int (iI ((4 * e_86) + e_74))), (4, .int (iI e_74)), (3, .int (iI a)), (2, .int (iI v)), (1, .int (iI m2)), (0, .ref (q 0))] dX8_goAll_93 (by decide) rfl ?_
                        have hbx := hbn2 (4 * e_86 + e_74).toNat (by omega)
                        refine z_iload_n (j := 4) dX8_goAll_95 rfl rfl ?_
                        refine z_if_ne (tgt := 109) dX8_goAll_96 (by decide) (by omega) (fun c_96 => ?_) (fun c_96 => ?_)
                        · refine z_iconst dX8_goAll_109 ?_
                          refine z_goto (tgt := 114) dX8_goAll_110 (by decide) ?_
                          refine z_istore_n [(1, .int (iI 1)), (5, .int (iI ((4 * e_86) + e_74))), (4, .int (iI e_74)), (3, .int (iI a)), (2, .int (iI v)), (0, .ref (q 0))] dX8_goAll_114 rfl (by decide) rfl ?_
                          refine z_aload_n (j := 5) dX8_goAll_115 rfl rfl ?_
                          refine z_getf (i := 0) (ci := 8) (k := 21) (v := .ref (q 11)) dX8_goAll_116 m_X8_goAll_f42 in_X8_goAll_X8 rfl (by decide) rfl (by omega) rfl rfl ?_
                          refine z_iload (j := 1) dX8_goAll_119 rfl ?_
                          refine z_iconst dX8_goAll_121 ?_
                          refine z_zast (i := 11) (g := za 11) 2 (cM cI cJ cZ q mi (va_up za 11 (va_up (za 11) ((4 * e_86) + e_74).toNat 1))) dX8_goAll_122 (by omega) rfl rfl (by omega) (by omega) (by omega) (by omega) la_11 ?_
                          refine z_iinc (j := 3) [(3, .int (iI (a + 1))), (1, .int (iI 1)), (5, .int (iI ((4 * e_86) + e_74))), (4, .int (iI e_74)), (2, .int (iI v)), (0, .ref (q 0))] dX8_goAll_123 rfl (by decide) rfl ?_
                          refine z_goto (tgt := 42) dX8_goAll_126 (by decide) ?_
                          exact z_sub [(3, .int (iI (a + 1))), (2, .int (iI v)), (1, .int (iI 1)), (0, .ref (q 0))] [0, 4, 1, 5] rfl (ih_42 (a + 1) 1 (va_up za 11 (va_up (za 11) ((4 * e_86) + e_74).toNat 1)) (by omega) (by omega) (by
            first
              | exact hza
              | exact fun k hk => by rw [up_n hk]; exact hza k hk) (by
            first
              | (rw [up_s]; exact gaN_add ha.1 hN3 hf1 hx (by omega))
              | exact gaN_skip ha.1 hN3 (by rw [hEz] at h_64; rw [show v = 4 * (v / 4) + v % 4 by omega]; exact aftA_no (by omega) (by omega) h_64)) (by
            first
              | exact hM3
              | (rw [up_s, ← show m2 = 1 by omega]; rw [show m2 = 1 by omega] at hM3 ⊢; exact gaM_1 hM3)
              | (rw [up_s]; exact gaM_new (by omega) (fun q => absurd (gaN_sub hN3 (by omega) q) (by omega)))
              | (rw [up_s]; rw [show m2 = 0 by omega] at hM3; exact gaM_old hM3 (by omega))) (by
            first
              | exact hbn2
              | (rw [up_s]; exact up_bitsN hbn2 (Or.inr rfl))))
                        · refine z_aload_n (j := 5) dX8_goAll_99 rfl rfl ?_
                          refine z_getf (i := 0) (ci := 8) (k := 21) (v := .ref (q 11)) dX8_goAll_100 m_X8_goAll_f42 in_X8_goAll_X8 rfl (by decide) rfl (by omega) rfl rfl ?_
                          refine z_iload (j := 0) dX8_goAll_103 rfl ?_
                          refine z_zald (i := 11) (g := za 11) 2 dX8_goAll_105 (by omega) rfl rfl (by omega) (by omega) (by omega) ?_
                          refine z_if_ne (tgt := 113) dX8_goAll_106 (by decide) (by omega) (fun c_106 => ?_) (fun c_106 => ?_)
                          · refine z_iconst dX8_goAll_113 ?_
                            refine z_istore_n [(1, .int (iI 0)), (5, .int (iI ((4 * e_86) + e_74))), (4, .int (iI e_74)), (3, .int (iI a)), (2, .int (iI v)), (0, .ref (q 0))] dX8_goAll_114 rfl (by decide) rfl ?_
                            refine z_aload_n (j := 5) dX8_goAll_115 rfl rfl ?_
                            refine z_getf (i := 0) (ci := 8) (k := 21) (v := .ref (q 11)) dX8_goAll_116 m_X8_goAll_f42 in_X8_goAll_X8 rfl (by decide) rfl (by omega) rfl rfl ?_
                            refine z_iload (j := 1) dX8_goAll_119 rfl ?_
                            refine z_iconst dX8_goAll_121 ?_
                            refine z_zast (i := 11) (g := za 11) 2 (cM cI cJ cZ q mi (va_up za 11 (va_up (za 11) ((4 * e_86) + e_74).toNat 1))) dX8_goAll_122 (by omega) rfl rfl (by omega) (by omega) (by omega) (by omega) la_11 ?_
                            refine z_iinc (j := 3) [(3, .int (iI (a + 1))), (1, .int (iI 0)), (5, .int (iI ((4 * e_86) + e_74))), (4, .int (iI e_74)), (2, .int (iI v)), (0, .ref (q 0))] dX8_goAll_123 rfl (by decide) rfl ?_
                            refine z_goto (tgt := 42) dX8_goAll_126 (by decide) ?_
                            exact z_sub [(3, .int (iI (a + 1))), (2, .int (iI v)), (1, .int (iI 0)), (0, .ref (q 0))] [0, 4, 1, 5] rfl (ih_42 (a + 1) 0 (va_up za 11 (va_up (za 11) ((4 * e_86) + e_74).toNat 1)) (by omega) (by omega) (by
            first
              | exact hza
              | exact fun k hk => by rw [up_n hk]; exact hza k hk) (by
            first
              | (rw [up_s]; exact gaN_add ha.1 hN3 hf1 hx (by omega))
              | exact gaN_skip ha.1 hN3 (by rw [hEz] at h_64; rw [show v = 4 * (v / 4) + v % 4 by omega]; exact aftA_no (by omega) (by omega) h_64)) (by
            first
              | exact hM3
              | (rw [up_s, ← show m2 = 1 by omega]; rw [show m2 = 1 by omega] at hM3 ⊢; exact gaM_1 hM3)
              | (rw [up_s]; exact gaM_new (by omega) (fun q => absurd (gaN_sub hN3 (by omega) q) (by omega)))
              | (rw [up_s]; rw [show m2 = 0 by omega] at hM3; exact gaM_old hM3 (by omega))) (by
            first
              | exact hbn2
              | (rw [up_s]; exact up_bitsN hbn2 (Or.inr rfl))))
                          · refine z_iconst dX8_goAll_109 ?_
                            refine z_goto (tgt := 114) dX8_goAll_110 (by decide) ?_
                            refine z_istore_n [(1, .int (iI 1)), (5, .int (iI ((4 * e_86) + e_74))), (4, .int (iI e_74)), (3, .int (iI a)), (2, .int (iI v)), (0, .ref (q 0))] dX8_goAll_114 rfl (by decide) rfl ?_
                            refine z_aload_n (j := 5) dX8_goAll_115 rfl rfl ?_
                            refine z_getf (i := 0) (ci := 8) (k := 21) (v := .ref (q 11)) dX8_goAll_116 m_X8_goAll_f42 in_X8_goAll_X8 rfl (by decide) rfl (by omega) rfl rfl ?_
                            refine z_iload (j := 1) dX8_goAll_119 rfl ?_
                            refine z_iconst dX8_goAll_121 ?_
                            refine z_zast (i := 11) (g := za 11) 2 (cM cI cJ cZ q mi (va_up za 11 (va_up (za 11) ((4 * e_86) + e_74).toNat 1))) dX8_goAll_122 (by omega) rfl rfl (by omega) (by omega) (by omega) (by omega) la_11 ?_
                            refine z_iinc (j := 3) [(3, .int (iI (a + 1))), (1, .int (iI 1)), (5, .int (iI ((4 * e_86) + e_74))), (4, .int (iI e_74)), (2, .int (iI v)), (0, .ref (q 0))] dX8_goAll_123 rfl (by decide) rfl ?_
                            refine z_goto (tgt := 42) dX8_goAll_126 (by decide) ?_
                            exact z_sub [(3, .int (iI (a + 1))), (2, .int (iI v)), (1, .int (iI 1)), (0, .ref (q 0))] [0, 4, 1, 5] rfl (ih_42 (a + 1) 1 (va_up za 11 (va_up (za 11) ((4 * e_86) + e_74).toNat 1)) (by omega) (by omega) (by
            first
              | exact hza
              | exact fun k hk => by rw [up_n hk]; exact hza k hk) (by
            first
              | (rw [up_s]; exact gaN_add ha.1 hN3 hf1 hx (by omega))
              | exact gaN_skip ha.1 hN3 (by rw [hEz] at h_64; rw [show v = 4 * (v / 4) + v % 4 by omega]; exact aftA_no (by omega) (by omega) h_64)) (by
            first
              | exact hM3
              | (rw [up_s, ← show m2 = 1 by omega]; rw [show m2 = 1 by omega] at hM3 ⊢; exact gaM_1 hM3)
              | (rw [up_s]; exact gaM_new (by omega) (fun q => absurd (gaN_sub hN3 (by omega) q) (by omega)))
              | (rw [up_s]; rw [show m2 = 0 by omega] at hM3; exact gaM_old hM3 (by omega))) (by
            first
              | exact hbn2
              | (rw [up_s]; exact up_bitsN hbn2 (Or.inr rfl))))
                      · refine z_if_eq (tgt := 123) dX8_goAll_67 (by decide) (by decide) (fun _ => ?_) (fun h => absurd h (by decide))
                        refine z_iinc (j := 0) [(3, .int (iI (a + 1))), (2, .int (iI v)), (1, .int (iI m2)), (0, .ref (q 0))] dX8_goAll_123 rfl (by decide) rfl ?_
                        refine z_goto (tgt := 42) dX8_goAll_126 (by decide) ?_
                        exact z_sub [(3, .int (iI (a + 1))), (2, .int (iI v)), (1, .int (iI m2)), (0, .ref (q 0))] [0, 1, 2, 3] rfl (ih_42 (a + 1) m2 za (by omega) (by omega) (by
            first
              | exact hza
              | exact fun k hk => by rw [up_n hk]; exact hza k hk) (by
            first
              | (rw [up_s]; exact gaN_add ha.1 hN3 hf1 hx (by omega))
              | exact gaN_skip ha.1 hN3 (by rw [hEz] at h_64; rw [show v = 4 * (v / 4) + v % 4 by omega]; exact aftA_no (by omega) (by omega) h_64)) (by
            first
              | exact hM3
              | (rw [up_s, ← show m2 = 1 by omega]; rw [show m2 = 1 by omega] at hM3 ⊢; exact gaM_1 hM3)
              | (rw [up_s]; exact gaM_new (by omega) (fun q => absurd (gaN_sub hN3 (by omega) q) (by omega)))
              | (rw [up_s]; rw [show m2 = 0 by omega] at hM3; exact gaM_old hM3 (by omega))) (by
            first
              | exact hbn2
              | (rw [up_s]; exact up_bitsN hbn2 (Or.inr rfl))))
              exact z_sub [(3, .int (iI 0)), (2, .int (iI v)), (1, .int (iI mf)), (0, .ref (q 0))] [0, 1, 2, 3] rfl (hl_42 _ 0 mf ya (Nat.lt_succ_self _) (by omega) (hya) (hN2) (hM2) (hbn))
        exact z_sub [(2, .int (iI 0)), (1, .int (iI 0)), (0, .ref (q 0))] [0, 1, 2] rfl (hl_30 _ 0 0 ya (Nat.lt_succ_self _) (by omega) (hya) (gaN_0 (fun j hj => h0 j (by omega))) (gaM_0 (fun j hj => h0 j (by omega))) (fun j hj => by rw [h0 j (by omega)]; exact hb j hj))
      · refine z_aload_n (j := 2) dX8_goAll_10 rfl rfl ?_
        refine z_getf (i := 0) (ci := 8) (k := 21) (v := .ref (q 11)) dX8_goAll_11 m_X8_goAll_f42 in_X8_goAll_X8 rfl (by decide) rfl (by omega) rfl rfl ?_
        refine z_iload_n (j := 0) dX8_goAll_14 rfl rfl ?_
        refine z_aload_n (j := 2) dX8_goAll_15 rfl rfl ?_
        refine z_getf (i := 0) (ci := 8) (k := 20) (v := .ref (q 10)) dX8_goAll_16 m_X8_goAll_f38 in_X8_goAll_X8 rfl (by decide) rfl (by omega) rfl rfl ?_
        refine z_iload_n (j := 0) dX8_goAll_19 rfl rfl ?_
        have hbz : ya 10 u.toNat = 0 ∨ ya 10 u.toNat = 1 := by rw [hya 10 (by decide)]; exact hb _ (by omega)
        refine z_zald (i := 10) (g := ya 10) 2 dX8_goAll_20 (by omega) rfl rfl (by omega) (by omega) (by omega) ?_
        refine z_zast (i := 11) (g := ya 11) 2 (cM cI cJ cZ q mi (va_up ya 11 (va_up (ya 11) u.toNat (ya 10 u.toNat)))) dX8_goAll_21 (by omega) rfl rfl (by omega) (by omega) (by omega) (by omega) la_11 ?_
        refine z_iinc (j := 0) [(2, .int (iI (u + 1))), (1, .int (iI 0)), (0, .ref (q 0))] dX8_goAll_22 rfl (by decide) rfl ?_
        refine z_goto (tgt := 4) dX8_goAll_25 (by decide) ?_
        exact z_sub [(2, .int (iI (u + 1))), (1, .int (iI 0)), (0, .ref (q 0))] [0, 1, 2] rfl (ih_4 (u + 1) (va_up ya 11 (va_up (ya 11) u.toNat (ya 10 u.toNat))) (by omega) (by omega) (fun k hk => by rw [up_n hk]; exact hya k hk) (fun j hj => by
            rw [up_s]
            by_cases hq : j = u.toNat
            · rw [hq, up_s, hya 10 (by decide)]
            · rw [up_n hq]; exact h0 j (by omega)))
  exact z_sub [(2, .int (iI 0)), (1, .int (iI 0)), (0, .ref (q 0))] [0, 1, 2] rfl (hl_4 _ 0 ma (Nat.lt_succ_self _) (by omega) (fun _ _ => rfl) (fun j hj => absurd hj (by omega)))
theorem m_X8_isThere_f38 : Cond.fieldLink RX8 38 "PoleBehindModel" "isSeen" "[Z" ∈ wsX8_isThere := List.mem_of_getElem? (i := 1) rfl
theorem in_X8_isThere_X8 : ∀ w ∈ wsX80, w ∈ wsX8_isThere := fun _ h => List.mem_cons_of_mem _ (List.mem_append_right _ h)
theorem m_X8_isThere_f75 : Cond.fieldLink RX8 75 "PoleBehindModel" "cells" "I" ∈ wsX8_isThere := List.mem_of_getElem? (i := 2) rfl
set_option maxHeartbeats 400000 in
set_option maxRecDepth 100000 in
theorem c_X8_isThere {l : Launch} {D : va_G} {cI cJ cZ cR : ClassId} {q : Nat → Nat} {mi : Nat → Int} {ma : Nat → Nat → Int} (hq : qOk 18 q)  (hR : MRv mi ma) (h1 : 1 ≤ mi 1) (hb : bitsN (ma 10) 64) : Cti l D vwCl (tysC cI cJ cZ cR) 18 q yX8_isThere wsX8_isThere ({ frames := 0, cells := 0, slots := 0, locals := 0 } : Room) [.ref (q 0)] (cM cI cJ cZ q mi ma) (fun (r : Int32) (g : Nat → va_E) => (((thr (mi 1) (ma 10)) ∧ r = iI 1) ∨ (¬ (thr (mi 1) (ma 10)) ∧ r = iI 0)) ∧ g = (cM cI cJ cZ q mi ma)) := by
  refine Cti.of (cc := cX8_isThere) (nL := 3) (own := RX8) (ret := (some .boolean)) (by decide) rfl rfl hq (Nat.le_of_ble_eq_true rfl) (fun p e s m args below meth c => ?_)
  obtain ⟨hN, hP, hK, hM, hD, hB⟩ := id hR
  have hRM := MRv_M hR
  have hnn : rN (rvM mi ma) = mi 1 := rfl
  refine z_iconst dX8_isThere_0 ?_
  refine z_istore_n [(1, .int (iI 0)), (0, .ref (q 0))] dX8_isThere_1 rfl (by decide) rfl ?_
  refine z_iconst dX8_isThere_2 ?_
  refine z_istore_n [(2, .int (iI 0)), (1, .int (iI 0)), (0, .ref (q 0))] dX8_isThere_3 rfl (by decide) rfl ?_
  have hl_4 : ∀ (N_4 : Nat) (u : Int) (b : Int), (5 - u).toNat < N_4 → (0 ≤ u ∧ u ≤ 4) → ((b = 1 ∧ ∃ t : Nat, (t : Int) < u ∧ ma 10 (4 * (mi 1 - 1) + (t : Int)).toNat = 1) ∨ (b = 0 ∧ ∀ t : Nat, (t : Int) < u → ma 10 (4 * (mi 1 - 1) + (t : Int)).toNat ≠ 1)) → ZMi l D vwCl (tysC cI cJ cZ cR) 18 q ({ frames := 0, cells := 0, slots := 0, locals := 0 } : Room) cX8_isThere 3 RX8 wsX8_isThere (some .boolean) (fun (r : Int32) (g : Nat → va_E) => (((thr (mi 1) (ma 10)) ∧ r = iI 1) ∨ (¬ (thr (mi 1) (ma 10)) ∧ r = iI 0)) ∧ g = (cM cI cJ cZ q mi ma)) p e s m args below meth c (cM cI cJ cZ q mi ma) 4 [(2, .int (iI u)), (1, .int (iI b)), (0, .ref (q 0))] [] := by
    intro N_4
    induction N_4 with
    | zero => intro u b hm; exact absurd hm (Nat.not_lt_zero _)
    | succ N_4 ih_4 =>
      intro u b hm_4 hu hv
      have hb01 : b = 0 ∨ b = 1 := hv.elim (fun h => Or.inr h.1) (fun h => Or.inl h.1)
      refine z_iload_n (j := 0) dX8_isThere_4 rfl rfl ?_
      refine z_iconst dX8_isThere_5 ?_
      refine z_icmp_ge (tgt := 43) dX8_isThere_6 (by decide) (by omega) (by decide) (fun c_6 => ?_) (fun c_6 => ?_)
      · refine z_iload_n (j := 1) dX8_isThere_43 rfl rfl ?_
        exact z_zret dX8_isThere_44 (hv.elim (fun h => Or.inr (by rw [h.1])) (fun h => Or.inl (by rw [h.1]))) ⟨by
      rcases hv with ⟨w1, t, w2, w3⟩ | ⟨w1, w2⟩
      · exact Or.inl ⟨⟨t, by omega, w3⟩, by rw [w1]⟩
      · exact Or.inr ⟨fun ⟨t, g1, g2⟩ => w2 t (by omega) g2, by rw [w1]⟩, rfl⟩
      · refine z_iload_n (j := 1) dX8_isThere_9 rfl rfl ?_
        refine z_if_ne (tgt := 31) dX8_isThere_10 (by decide) (by omega) (fun c_10 => ?_) (fun c_10 => ?_)
        · refine z_iconst dX8_isThere_31 ?_
          refine z_goto (tgt := 36) dX8_isThere_32 (by decide) ?_
          refine z_istore_n [(1, .int (iI 1)), (2, .int (iI u)), (0, .ref (q 0))] dX8_isThere_36 rfl (by decide) rfl ?_
          refine z_iinc (j := 1) [(2, .int (iI (u + 1))), (1, .int (iI 1)), (0, .ref (q 0))] dX8_isThere_37 rfl (by decide) rfl ?_
          refine z_goto (tgt := 4) dX8_isThere_40 (by decide) ?_
          exact z_sub [(2, .int (iI (u + 1))), (1, .int (iI 1)), (0, .ref (q 0))] [0, 1, 2] rfl (ih_4 (u + 1) 1 (by omega) (by omega) (by
            rcases hv with ⟨w1, t, w2, w3⟩ | ⟨w1, w2⟩
            · first
                | exact Or.inl ⟨rfl, t, by omega, w3⟩
                | exact absurd w1 (by omega)
            · first
                | exact Or.inl ⟨rfl, u.toNat, by omega, by rw [castN hu.1]; omega⟩
                | (refine Or.inr ⟨rfl, fun t ht => ?_⟩
                   by_cases hq : (t : Int) = u
                   · rw [hq]; omega
                   · exact w2 t (by omega))
                | exact absurd w1 (by omega)))
        · refine z_aload_n (j := 2) dX8_isThere_13 rfl rfl ?_
          refine z_getf (i := 0) (ci := 8) (k := 20) (v := .ref (q 10)) dX8_isThere_14 m_X8_isThere_f38 in_X8_isThere_X8 rfl (by decide) rfl (by omega) rfl rfl ?_
          refine z_iconst dX8_isThere_17 ?_
          refine z_aload_n (j := 2) dX8_isThere_18 rfl rfl ?_
          refine z_getf (i := 0) (ci := 8) (k := 1) (v := .int (iI (mi 1))) dX8_isThere_19 m_X8_isThere_f75 in_X8_isThere_X8 rfl (by decide) rfl (by omega) rfl rfl ?_
          refine z_iconst dX8_isThere_22 ?_
          refine z_isub dX8_isThere_23 ?_
          refine z_imul dX8_isThere_24 ?_
          refine z_iload_n (j := 0) dX8_isThere_25 rfl rfl ?_
          refine z_iadd dX8_isThere_26 ?_
          have hbx := hb (4 * (mi 1 - 1) + u).toNat (by omega)
          refine z_zald (i := 10) (g := ma 10) 2 dX8_isThere_27 (by omega) rfl rfl (by omega) (by omega) (by omega) ?_
          refine z_if_eq (tgt := 35) dX8_isThere_28 (by decide) (by omega) (fun c_28 => ?_) (fun c_28 => ?_)
          · refine z_iconst dX8_isThere_35 ?_
            refine z_istore_n [(1, .int (iI 0)), (2, .int (iI u)), (0, .ref (q 0))] dX8_isThere_36 rfl (by decide) rfl ?_
            refine z_iinc (j := 1) [(2, .int (iI (u + 1))), (1, .int (iI 0)), (0, .ref (q 0))] dX8_isThere_37 rfl (by decide) rfl ?_
            refine z_goto (tgt := 4) dX8_isThere_40 (by decide) ?_
            exact z_sub [(2, .int (iI (u + 1))), (1, .int (iI 0)), (0, .ref (q 0))] [0, 1, 2] rfl (ih_4 (u + 1) 0 (by omega) (by omega) (by
            rcases hv with ⟨w1, t, w2, w3⟩ | ⟨w1, w2⟩
            · first
                | exact Or.inl ⟨rfl, t, by omega, w3⟩
                | exact absurd w1 (by omega)
            · first
                | exact Or.inl ⟨rfl, u.toNat, by omega, by rw [castN hu.1]; omega⟩
                | (refine Or.inr ⟨rfl, fun t ht => ?_⟩
                   by_cases hq : (t : Int) = u
                   · rw [hq]; omega
                   · exact w2 t (by omega))
                | exact absurd w1 (by omega)))
          · refine z_iconst dX8_isThere_31 ?_
            refine z_goto (tgt := 36) dX8_isThere_32 (by decide) ?_
            refine z_istore_n [(1, .int (iI 1)), (2, .int (iI u)), (0, .ref (q 0))] dX8_isThere_36 rfl (by decide) rfl ?_
            refine z_iinc (j := 1) [(2, .int (iI (u + 1))), (1, .int (iI 1)), (0, .ref (q 0))] dX8_isThere_37 rfl (by decide) rfl ?_
            refine z_goto (tgt := 4) dX8_isThere_40 (by decide) ?_
            exact z_sub [(2, .int (iI (u + 1))), (1, .int (iI 1)), (0, .ref (q 0))] [0, 1, 2] rfl (ih_4 (u + 1) 1 (by omega) (by omega) (by
            rcases hv with ⟨w1, t, w2, w3⟩ | ⟨w1, w2⟩
            · first
                | exact Or.inl ⟨rfl, t, by omega, w3⟩
                | exact absurd w1 (by omega)
            · first
                | exact Or.inl ⟨rfl, u.toNat, by omega, by rw [castN hu.1]; omega⟩
                | (refine Or.inr ⟨rfl, fun t ht => ?_⟩
                   by_cases hq : (t : Int) = u
                   · rw [hq]; omega
                   · exact w2 t (by omega))
                | exact absurd w1 (by omega)))
  exact z_sub [(2, .int (iI 0)), (1, .int (iI 0)), (0, .ref (q 0))] [0, 1, 2] rfl (hl_4 _ 0 0 (Nat.lt_succ_self _) (by omega) (Or.inr ⟨rfl, fun t ht => absurd ht (by omega)⟩))
theorem cd_X8_isThere : yX8_isThere.cls = RX8 ∧ yX8_isThere.cls ≠ "java/lang/invoke/MethodHandle" ∧ yX8_isThere.cls ≠ "java/lang/invoke/VarHandle" ∧ (parseMethodDescriptor yX8_isThere.desc).map (fun d => d.parameters.length) = some 0 := ⟨rfl, by decide +kernel, by decide +kernel, by decide +kernel⟩
theorem cd_X8_goAll : yX8_goAll.cls = RX8 ∧ yX8_goAll.cls ≠ "java/lang/invoke/MethodHandle" ∧ yX8_goAll.cls ≠ "java/lang/invoke/VarHandle" ∧ (parseMethodDescriptor yX8_goAll.desc).map (fun d => d.parameters.length) = some 0 := ⟨rfl, by decide +kernel, by decide +kernel, by decide +kernel⟩
theorem m_X8_soonestNow_f38 : Cond.fieldLink RX8 38 "PoleBehindModel" "isSeen" "[Z" ∈ wsX8_soonestNow := List.mem_of_getElem? (i := 1) rfl
theorem in_X8_soonestNow_X8 : ∀ w ∈ wsX80, w ∈ wsX8_soonestNow := fun _ h => List.mem_cons_of_mem _ (List.mem_append_right _ h)
theorem m_X8_soonestNow_f127 : Cond.fieldLink RX8 127 "PoleBehindModel" "paceFirst" "I" ∈ wsX8_soonestNow := List.mem_of_getElem? (i := 2) rfl
set_option maxHeartbeats 400000 in
set_option maxRecDepth 100000 in
theorem c_X8_soonestNow {l : Launch} {D : va_G} {cI cJ cZ cR : ClassId} {q : Nat → Nat} {mi : Nat → Int} {ma : Nat → Nat → Int} (hq : qOk 18 q)  (hR : MRv mi ma) (h2 : 2 ≤ mi 1) : Cti l D vwCl (tysC cI cJ cZ cR) 18 q yX8_soonestNow wsX8_soonestNow ({ frames := 3, cells := 0, slots := 0, locals := 73 } : Room) [.ref (q 0)] (cM cI cJ cZ q mi ma) (fun (r : Int32) (g : Nat → va_E) => ∃ (e : Int) (ma' : Nat → Nat → Int), (soonX (rvM mi ma) (mi 2) e ∧ ∀ k, k ≠ 10 → k ≠ 11 → ma' k = ma k) ∧ r = iI e ∧ g = (cM cI cJ cZ q mi ma')) := by
  refine Cti.of (cc := cX8_soonestNow) (nL := 3) (own := RX8) (ret := (some .int)) (by decide) rfl rfl hq (Nat.le_of_ble_eq_true rfl) (fun p e s m args below meth c => ?_)
  obtain ⟨hN, hP, hK, hM, hD, hB⟩ := id hR
  have hRM := MRv_M hR
  have hnn : rN (rvM mi ma) = mi 1 := rfl
  have hnr : 2 ≤ rN (rvM mi ma) ∧ rN (rvM mi ma) ≤ 16 := by rw [hnn]; omega
  refine z_iconst dX8_soonestNow_0 ?_
  refine z_istore_n [(1, .int (iI 0)), (0, .ref (q 0))] dX8_soonestNow_1 rfl (by decide) rfl ?_
  have hl_2 : ∀ (N_2 : Nat) (u : Int) (ya : Nat → Nat → Int), (65 - u).toNat < N_2 → (0 ≤ u ∧ u ≤ 64) → (∀ k, k ≠ 10 → ya k = ma k) → (∀ j : Nat, (j : Int) < u → ya 10 j = if (j : Int) = mi 2 then 1 else 0) → ZMi l D vwCl (tysC cI cJ cZ cR) 18 q ({ frames := 3, cells := 0, slots := 0, locals := 73 } : Room) cX8_soonestNow 3 RX8 wsX8_soonestNow (some .int) (fun (r : Int32) (g : Nat → va_E) => ∃ (e : Int) (ma' : Nat → Nat → Int), (soonX (rvM mi ma) (mi 2) e ∧ ∀ k, k ≠ 10 → k ≠ 11 → ma' k = ma k) ∧ r = iI e ∧ g = (cM cI cJ cZ q mi ma')) p e s m args below meth c (cM cI cJ cZ q mi ya) 2 [(1, .int (iI u)), (0, .ref (q 0))] [] := by
    intro N_2
    induction N_2 with
    | zero => intro u ya hm; exact absurd hm (Nat.not_lt_zero _)
    | succ N_2 ih_2 =>
      intro u ya hm_2 hu hya h0
      refine z_iload_n (j := 0) dX8_soonestNow_2 rfl rfl ?_
      refine z_bipush dX8_soonestNow_3 (by decide) ?_
      refine z_icmp_ge (tgt := 33) dX8_soonestNow_5 (by decide) (by omega) (by decide) (fun c_5 => ?_) (fun c_5 => ?_)
      · refine z_iconst dX8_soonestNow_33 ?_
        refine z_istore_n [(1, .int (iI 0)), (0, .ref (q 0))] dX8_soonestNow_34 rfl (by decide) rfl ?_
        refine z_iconst dX8_soonestNow_35 ?_
        refine z_istore_n [(2, .int (iI 1)), (1, .int (iI 0)), (0, .ref (q 0))] dX8_soonestNow_36 rfl (by decide) rfl ?_
        have hl_37 : ∀ (N_37 : Nat) (u : Int) (mf : Int) (ya : Nat → Nat → Int), (66 - u).toNat < N_37 → (0 ≤ u) → (∀ k, k ≠ 10 → k ≠ 11 → ya k = ma k) → (srch (rvM mi ma) (mi 2) (ya 10) u mf) → ZMi l D vwCl (tysC cI cJ cZ cR) 18 q ({ frames := 3, cells := 0, slots := 0, locals := 73 } : Room) cX8_soonestNow 3 RX8 wsX8_soonestNow (some .int) (fun (r : Int32) (g : Nat → va_E) => ∃ (e : Int) (ma' : Nat → Nat → Int), (soonX (rvM mi ma) (mi 2) e ∧ ∀ k, k ≠ 10 → k ≠ 11 → ma' k = ma k) ∧ r = iI e ∧ g = (cM cI cJ cZ q mi ma')) p e s m args below meth c (cM cI cJ cZ q mi ya) 37 [(2, .int (iI mf)), (1, .int (iI u)), (0, .ref (q 0))] [] := by
          intro N_37
          induction N_37 with
          | zero => intro u mf ya hm; exact absurd hm (Nat.not_lt_zero _)
          | succ N_37 ih_37 =>
            intro u mf ya hm_37 hu hyo hs
            have hRy := MRv_s hR hyo
            have hEy : rvM mi ya = (rvM mi ma) := rvM_s hyo
            have hsu := srch_u hs
            refine z_iload_n (j := 0) dX8_soonestNow_37 rfl rfl ?_
            refine z_if_eq (tgt := 59) dX8_soonestNow_38 (by decide) (by omega) (fun c_38 => ?_) (fun c_38 => ?_)
            · refine z_aload_n (j := 2) dX8_soonestNow_59 rfl rfl ?_
              refine z_callVi (i := 0) (ci := 8) (As := []) (rest := []) (c_X8_isThere  hq hRy (by omega) hs.1) dX8_soonestNow_60 gX8_soonestNow_X8_isThere rfl cd_X8_isThere ⟨Nat.le_of_ble_eq_true rfl, Nat.le_of_ble_eq_true rfl⟩ rfl rfl (by omega) rfl rfl rfl (Nat.le_of_ble_eq_true rfl) ⟨Nat.zero_le _, Nat.zero_le _⟩ (fun r_60 g_60 hp_60 => ?_)
              obtain ⟨⟨h_60, rfl⟩ | ⟨h_60, rfl⟩, rfl⟩ := hp_60
              · refine z_if_eq (tgt := 70) dX8_soonestNow_63 (by decide) (by decide) (fun h => absurd h (by decide)) (fun _ => ?_)
                refine z_iload_n (j := 1) dX8_soonestNow_66 rfl rfl ?_
                refine z_goto (tgt := 72) dX8_soonestNow_67 (by decide) ?_
                exact z_iret dX8_soonestNow_72 ⟨_, _, (by
      refine ⟨?_, hyo⟩
      first
        | exact srch_yes hnr hP hu hs h_60
        | exact srch_no hnr hP hs c_38 h_60
        | exact absurd h_42 h_60), rfl, rfl⟩
              · refine z_if_eq (tgt := 70) dX8_soonestNow_63 (by decide) (by decide) (fun _ => ?_) (fun h => absurd h (by decide))
                refine z_bipush dX8_soonestNow_70 (by decide) ?_
                exact z_iret dX8_soonestNow_72 ⟨_, _, (by
      refine ⟨?_, hyo⟩
      first
        | exact srch_yes hnr hP hu hs h_60
        | exact srch_no hnr hP hs c_38 h_60
        | exact absurd h_42 h_60), rfl, rfl⟩
            · refine z_aload_n (j := 2) dX8_soonestNow_41 rfl rfl ?_
              refine z_callVi (i := 0) (ci := 8) (As := []) (rest := []) (c_X8_isThere  hq hRy (by omega) hs.1) dX8_soonestNow_42 gX8_soonestNow_X8_isThere rfl cd_X8_isThere ⟨Nat.le_of_ble_eq_true rfl, Nat.le_of_ble_eq_true rfl⟩ rfl rfl (by omega) rfl rfl rfl (Nat.le_of_ble_eq_true rfl) ⟨Nat.zero_le _, Nat.zero_le _⟩ (fun r_42 g_42 hp_42 => ?_)
              obtain ⟨⟨h_42, rfl⟩ | ⟨h_42, rfl⟩, rfl⟩ := hp_42
              · refine z_if_ne (tgt := 59) dX8_soonestNow_45 (by decide) (by decide) (fun _ => ?_) (fun h => absurd h (by decide))
                refine z_aload_n (j := 2) dX8_soonestNow_59 rfl rfl ?_
                refine z_callVi (i := 0) (ci := 8) (As := []) (rest := []) (c_X8_isThere  hq hRy (by omega) hs.1) dX8_soonestNow_60 gX8_soonestNow_X8_isThere rfl cd_X8_isThere ⟨Nat.le_of_ble_eq_true rfl, Nat.le_of_ble_eq_true rfl⟩ rfl rfl (by omega) rfl rfl rfl (Nat.le_of_ble_eq_true rfl) ⟨Nat.zero_le _, Nat.zero_le _⟩ (fun r_60 g_60 hp_60 => ?_)
                obtain ⟨⟨h_60, rfl⟩ | ⟨h_60, rfl⟩, rfl⟩ := hp_60
                · refine z_if_eq (tgt := 70) dX8_soonestNow_63 (by decide) (by decide) (fun h => absurd h (by decide)) (fun _ => ?_)
                  refine z_iload_n (j := 1) dX8_soonestNow_66 rfl rfl ?_
                  refine z_goto (tgt := 72) dX8_soonestNow_67 (by decide) ?_
                  exact z_iret dX8_soonestNow_72 ⟨_, _, (by
      refine ⟨?_, hyo⟩
      first
        | exact srch_yes hnr hP hu hs h_60
        | exact srch_no hnr hP hs c_38 h_60
        | exact absurd h_42 h_60), rfl, rfl⟩
                · refine z_if_eq (tgt := 70) dX8_soonestNow_63 (by decide) (by decide) (fun _ => ?_) (fun h => absurd h (by decide))
                  refine z_bipush dX8_soonestNow_70 (by decide) ?_
                  exact z_iret dX8_soonestNow_72 ⟨_, _, (by
      refine ⟨?_, hyo⟩
      first
        | exact srch_yes hnr hP hu hs h_60
        | exact srch_no hnr hP hs c_38 h_60
        | exact absurd h_42 h_60), rfl, rfl⟩
              · refine z_if_ne (tgt := 59) dX8_soonestNow_45 (by decide) (by decide) (fun h => absurd h (by decide)) (fun _ => ?_)
                have hm1 : mf = 1 := hsu.2.resolve_left c_38
                have hs1 := hs
                rw [hm1] at hs1
                refine z_aload_n (j := 2) dX8_soonestNow_48 rfl rfl ?_
                refine z_callVi (i := 0) (ci := 8) (As := []) (rest := []) (c_X8_goAll  hq hRy (by omega) hs.1) dX8_soonestNow_49 gX8_soonestNow_X8_goAll rfl cd_X8_goAll ⟨Nat.le_of_ble_eq_true rfl, Nat.le_of_ble_eq_true rfl⟩ rfl rfl (by omega) rfl rfl rfl (Nat.le_of_ble_eq_true rfl) ⟨Nat.zero_le _, Nat.zero_le _⟩ (fun r_49 g_49 hp_49 => ?_)
                obtain ⟨ma_49, ⟨h_49, rfl⟩ | ⟨h_49, rfl⟩, rfl⟩ := hp_49
                · refine z_istore_n [(2, .int (iI 1)), (1, .int (iI u)), (0, .ref (q 0))] dX8_soonestNow_52 rfl (by decide) rfl ?_
                  rw [hEy] at h_49
                  refine z_iinc (j := 1) [(1, .int (iI (u + 1))), (2, .int (iI 1)), (0, .ref (q 0))] dX8_soonestNow_53 rfl (by decide) rfl ?_
                  refine z_goto (tgt := 37) dX8_soonestNow_56 (by decide) ?_
                  exact z_sub [(2, .int (iI 1)), (1, .int (iI (u + 1))), (0, .ref (q 0))] [1, 0, 2] rfl (ih_37 (u + 1) 1 ma_49 (by omega) (by omega) (fun k a1 a2 => (h_49.2.1 k a1 a2).trans (hyo k a1 a2)) (srch_go hnr hu hs1 h_42 h_49.1 h_49.2.2.1 h_49.2.2.2))
                · refine z_istore_n [(2, .int (iI 0)), (1, .int (iI u)), (0, .ref (q 0))] dX8_soonestNow_52 rfl (by decide) rfl ?_
                  rw [hEy] at h_49
                  refine z_iinc (j := 1) [(1, .int (iI (u + 1))), (2, .int (iI 0)), (0, .ref (q 0))] dX8_soonestNow_53 rfl (by decide) rfl ?_
                  refine z_goto (tgt := 37) dX8_soonestNow_56 (by decide) ?_
                  exact z_sub [(2, .int (iI 0)), (1, .int (iI (u + 1))), (0, .ref (q 0))] [1, 0, 2] rfl (ih_37 (u + 1) 0 ma_49 (by omega) (by omega) (fun k a1 a2 => (h_49.2.1 k a1 a2).trans (hyo k a1 a2)) (srch_go hnr hu hs1 h_42 h_49.1 h_49.2.2.1 h_49.2.2.2))
        exact z_sub [(2, .int (iI 1)), (1, .int (iI 0)), (0, .ref (q 0))] [0, 1, 2] rfl (hl_37 _ 0 1 ya (Nat.lt_succ_self _) (by omega) (fun k a1 _ => hya k a1) (srch_0 hP (fun j hj => h0 j (by omega))))
      · refine z_aload_n (j := 1) dX8_soonestNow_8 rfl rfl ?_
        refine z_getf (i := 0) (ci := 8) (k := 20) (v := .ref (q 10)) dX8_soonestNow_9 m_X8_soonestNow_f38 in_X8_soonestNow_X8 rfl (by decide) rfl (by omega) rfl rfl ?_
        refine z_iload_n (j := 0) dX8_soonestNow_12 rfl rfl ?_
        refine z_iload_n (j := 0) dX8_soonestNow_13 rfl rfl ?_
        refine z_aload_n (j := 1) dX8_soonestNow_14 rfl rfl ?_
        refine z_getf (i := 0) (ci := 8) (k := 2) (v := .int (iI (mi 2))) dX8_soonestNow_15 m_X8_soonestNow_f127 in_X8_soonestNow_X8 rfl (by decide) rfl (by omega) rfl rfl ?_
        refine z_icmp_ne (tgt := 25) dX8_soonestNow_18 (by decide) (by omega) (by omega) (fun c_18 => ?_) (fun c_18 => ?_)
        · refine z_iconst dX8_soonestNow_25 ?_
          refine z_zast (i := 10) (g := ya 10) 2 (cM cI cJ cZ q mi (va_up ya 10 (va_up (ya 10) u.toNat 0))) dX8_soonestNow_26 (by omega) rfl rfl (by omega) (by omega) (by omega) (by omega) la_10 ?_
          refine z_iinc (j := 0) [(1, .int (iI (u + 1))), (0, .ref (q 0))] dX8_soonestNow_27 rfl (by decide) rfl ?_
          refine z_goto (tgt := 2) dX8_soonestNow_30 (by decide) ?_
          exact z_sub [(1, .int (iI (u + 1))), (0, .ref (q 0))] [0, 1] rfl (ih_2 (u + 1) (va_up ya 10 (va_up (ya 10) u.toNat 0)) (by omega) (by omega) (fun k hk => by rw [up_n hk]; exact hya k hk) (fun j hj => by
            rw [up_s]
            by_cases hq : j = u.toNat
            · rw [hq, up_s]
              first | rw [if_pos (by omega)] | rw [if_neg (by omega)]
            · rw [up_n hq]; exact h0 j (by omega)))
        · refine z_iconst dX8_soonestNow_21 ?_
          refine z_goto (tgt := 26) dX8_soonestNow_22 (by decide) ?_
          refine z_zast (i := 10) (g := ya 10) 2 (cM cI cJ cZ q mi (va_up ya 10 (va_up (ya 10) u.toNat 1))) dX8_soonestNow_26 (by omega) rfl rfl (by omega) (by omega) (by omega) (by omega) la_10 ?_
          refine z_iinc (j := 0) [(1, .int (iI (u + 1))), (0, .ref (q 0))] dX8_soonestNow_27 rfl (by decide) rfl ?_
          refine z_goto (tgt := 2) dX8_soonestNow_30 (by decide) ?_
          exact z_sub [(1, .int (iI (u + 1))), (0, .ref (q 0))] [0, 1] rfl (ih_2 (u + 1) (va_up ya 10 (va_up (ya 10) u.toNat 1)) (by omega) (by omega) (fun k hk => by rw [up_n hk]; exact hya k hk) (fun j hj => by
            rw [up_s]
            by_cases hq : j = u.toNat
            · rw [hq, up_s]
              first | rw [if_pos (by omega)] | rw [if_neg (by omega)]
            · rw [up_n hq]; exact h0 j (by omega)))
  exact z_sub [(1, .int (iI 0)), (0, .ref (q 0))] [0, 1] rfl (hl_2 _ 0 ma (Nat.lt_succ_self _) (by omega) (fun _ _ => rfl) (fun j hj => absurd hj (by omega)))
theorem m_X8_soonest_f75 : Cond.fieldLink RX8 75 "PoleBehindModel" "cells" "I" ∈ wsX8_soonest := List.mem_of_getElem? (i := 1) rfl
theorem in_X8_soonest_X8 : ∀ w ∈ wsX80, w ∈ wsX8_soonest := fun _ h => List.mem_cons_of_mem _ (List.mem_append_right _ h)
theorem cd_X8_soonestNow : yX8_soonestNow.cls = RX8 ∧ yX8_soonestNow.cls ≠ "java/lang/invoke/MethodHandle" ∧ yX8_soonestNow.cls ≠ "java/lang/invoke/VarHandle" ∧ (parseMethodDescriptor yX8_soonestNow.desc).map (fun d => d.parameters.length) = some 0 := ⟨rfl, by decide +kernel, by decide +kernel, by decide +kernel⟩
set_option maxHeartbeats 400000 in
set_option maxRecDepth 100000 in
theorem c_X8_soonest {l : Launch} {D : va_G} {cI cJ cZ cR : ClassId} {q : Nat → Nat} {mi : Nat → Int} {ma : Nat → Nat → Int} (hq : qOk 18 q)  (hO : MOk mi ma) : Cti l D vwCl (tysC cI cJ cZ cR) 18 q yX8_soonest wsX8_soonest ({ frames := 4, cells := 0, slots := 0, locals := 95 } : Room) [.ref (q 0)] (cM cI cJ cZ q mi ma) (fun (r : Int32) (g : Nat → va_E) => ∃ (e : Int) (ma' : Nat → Nat → Int), (spSoonest (vM mi ma) e ∧ vM mi ma' = (vM mi ma) ∧ MOk mi ma') ∧ r = iI e ∧ g = (cM cI cJ cZ q mi ma')) := by
  refine Cti.of (cc := cX8_soonest) (nL := 1) (own := RX8) (ret := (some .int)) (by decide) rfl rfl hq (Nat.le_of_ble_eq_true rfl) (fun p e s m args below meth c => ?_)
  obtain ⟨hR, hn2, hQ, hSh, hSn, hHd, hRdg, hfa⟩ := id hO
  obtain ⟨hN, hP, hK, hM, hD, hB⟩ := id hR
  have hRM := MRv_M hR
  have hnn : rN (rvM mi ma) = mi 1 := rfl
  have hnA : rN (aR (vM mi ma)) = mi 1 := rfl
  refine z_aload_n (j := 0) dX8_soonest_0 rfl rfl ?_
  refine z_getf (i := 0) (ci := 8) (k := 1) (v := .int (iI (mi 1))) dX8_soonest_1 m_X8_soonest_f75 in_X8_soonest_X8 rfl (by decide) rfl (by omega) rfl rfl ?_
  refine z_if_ne (tgt := 12) dX8_soonest_4 (by decide) (by omega) (fun c_4 => ?_) (fun c_4 => ?_)
  · refine z_aload_n (j := 0) dX8_soonest_12 rfl rfl ?_
    refine z_callVi (i := 0) (ci := 8) (As := []) (rest := []) (c_X8_soonestNow  hq hR (by omega)) dX8_soonest_13 gX8_soonest_X8_soonestNow rfl cd_X8_soonestNow ⟨Nat.le_of_ble_eq_true rfl, Nat.le_of_ble_eq_true rfl⟩ rfl rfl (by omega) rfl rfl rfl (Nat.le_of_ble_eq_true rfl) ⟨Nat.zero_le _, Nat.zero_le _⟩ (fun r_13 g_13 hp_13 => ?_)
    obtain ⟨e_13, ma_13, he_13, rfl, rfl⟩ := hp_13
    have hsg := soonX_rng he_13.1
    exact z_iret dX8_soonest_16 ⟨_, _, (by
      unfold spSoonest
      first
        | (rw [if_pos (by rw [hnA]; omega)]; exact ⟨rfl, rfl, hO⟩)
        | (rw [if_neg (by rw [hnA]; omega)]; exact ⟨he_13.1, vM_s he_13.2, MOk_s hO he_13.2⟩)), rfl, rfl⟩
  · refine z_bipush dX8_soonest_7 (by decide) ?_
    refine z_goto (tgt := 16) dX8_soonest_9 (by decide) ?_
    exact z_iret dX8_soonest_16 ⟨_, _, (by
      unfold spSoonest
      first
        | (rw [if_pos (by rw [hnA]; omega)]; exact ⟨rfl, rfl, hO⟩)
        | (rw [if_neg (by rw [hnA]; omega)]; exact ⟨he_13.1, vM_s he_13.2, MOk_s hO he_13.2⟩)), rfl, rfl⟩
theorem m_X8_cost_f19 : Cond.fieldLink RX8 19 "PoleBehindModel" "bridgeOver" "[I" ∈ wsX8_cost := List.mem_of_getElem? (i := 1) rfl
theorem in_X8_cost_X8 : ∀ w ∈ wsX80, w ∈ wsX8_cost := fun _ h => List.mem_cons_of_mem _ (List.mem_append_right _ h)
set_option maxHeartbeats 400000 in
set_option maxRecDepth 100000 in
theorem c_X8_cost {l : Launch} {D : va_G} {cI cJ cZ cR : ClassId} {q : Nat → Nat} {mi : Nat → Int} {ma : Nat → Nat → Int} (hq : qOk 18 q) {z : Int} (hO : MOk mi ma) (hz : -2147483648 ≤ z ∧ z < 2147483648) : Cti l D vwCl (tysC cI cJ cZ cR) 18 q yX8_cost wsX8_cost ({ frames := 4, cells := 0, slots := 0, locals := 95 } : Room) [.ref (q 0), .int (iI z)] (cM cI cJ cZ q mi ma) (fun (r : Int32) (g : Nat → va_E) => ∃ (e : Int) (ma' : Nat → Nat → Int), (spCost (vM mi ma) z e ∧ vM mi ma' = (vM mi ma) ∧ MOk mi ma') ∧ r = iI e ∧ g = (cM cI cJ cZ q mi ma')) := by
  refine Cti.of (cc := cX8_cost) (nL := 4) (own := RX8) (ret := (some .int)) (by decide) rfl rfl hq (Nat.le_of_ble_eq_true rfl) (fun p e s m args below meth c => ?_)
  obtain ⟨hR, hn2, hQ, hSh, hSn, hHd, hRdg, hfa⟩ := id hO
  obtain ⟨hN, hP, hK, hM, hD, hB⟩ := id hR
  have hRM := MRv_M hR
  have hnn : rN (rvM mi ma) = mi 1 := rfl
  have hnA : rN (aR (vM mi ma)) = mi 1 := rfl
  have hbz := hB z.toNat
  refine z_aload_n (j := 0) dX8_cost_0 rfl rfl ?_
  refine z_iload_n (j := 1) dX8_cost_1 rfl rfl ?_
  refine z_callVi (i := 0) (ci := 8) (As := [.int (iI z)]) (rest := []) (c_X8_noPlace  hq hR (by omega)) dX8_cost_2 gX8_cost_X8_noPlace rfl cd_X8_noPlace ⟨Nat.le_of_ble_eq_true rfl, Nat.le_of_ble_eq_true rfl⟩ rfl rfl (by omega) rfl rfl rfl (Nat.le_of_ble_eq_true rfl) ⟨Nat.zero_le _, Nat.zero_le _⟩ (fun r_2 g_2 hp_2 => ?_)
  obtain ⟨⟨h_2, rfl⟩ | ⟨h_2, rfl⟩, rfl⟩ := hp_2
  · refine z_if_eq (tgt := 10) dX8_cost_5 (by decide) (by decide) (fun h => absurd h (by decide)) (fun _ => ?_)
    refine z_iconst dX8_cost_8 ?_
    exact z_iret dX8_cost_9 ⟨_, _, (by unfold spCost; rw [if_pos (by rw [hnA]; omega)]; exact ⟨rfl, rfl, hO⟩), rfl, rfl⟩
  · refine z_if_eq (tgt := 10) dX8_cost_5 (by decide) (by decide) (fun _ => ?_) (fun h => absurd h (by decide))
    refine z_aload_n (j := 0) dX8_cost_10 rfl rfl ?_
    refine z_getf (i := 0) (ci := 8) (k := 6) (v := .ref (q 4)) dX8_cost_11 m_X8_cost_f19 in_X8_cost_X8 rfl (by decide) rfl (by omega) rfl rfl ?_
    refine z_iload_n (j := 1) dX8_cost_14 rfl rfl ?_
    refine z_iald (i := 4) (g := ma 4) 0 dX8_cost_15 (by omega) rfl rfl (by omega) (by omega) (by omega) ?_
    refine z_if_ne (tgt := 21) dX8_cost_16 (by decide) (by omega) (fun c_16 => ?_) (fun c_16 => ?_)
    · have hrb : rB (aR (vM mi ma)) z.toNat = ma 4 z.toNat := nrm_in (by omega)
      have h2m : 2 ≤ mi 1 := by omega
      have hB1 : ma 4 z.toNat = 1 := by omega
      refine z_aload_n (j := 0) dX8_cost_21 rfl rfl ?_
      refine z_callVi (i := 0) (ci := 8) (As := []) (rest := []) (c_X8_soonestNow  hq hR (by omega)) dX8_cost_22 gX8_cost_X8_soonestNow rfl cd_X8_soonestNow ⟨Nat.le_of_ble_eq_true rfl, Nat.le_of_ble_eq_true rfl⟩ rfl rfl (by omega) rfl rfl rfl (Nat.le_of_ble_eq_true rfl) ⟨Nat.zero_le _, Nat.zero_le _⟩ (fun r_22 g_22 hp_22 => ?_)
      obtain ⟨e_22, ma_22, he_22, rfl, rfl⟩ := hp_22
      have hs22 := soonX_rng he_22.1
      have hR1 : MRv mi (va_up ma_22 4 (va_up (ma_22 4) z.toNat 0)) := MRv_b (MRv_s hR he_22.2) (Or.inl rfl)
      have hE1 : rvM mi (va_up ma_22 4 (va_up (ma_22 4) z.toNat 0)) = setB (rvM mi ma) z.toNat 0 := by rw [rvM_b (by omega), rvM_s he_22.2]
      refine z_istore_n [(2, .int (iI e_22)), (0, .ref (q 0)), (1, .int (iI z))] dX8_cost_25 rfl (by decide) rfl ?_
      refine z_aload_n (j := 1) dX8_cost_26 rfl rfl ?_
      refine z_getf (i := 0) (ci := 8) (k := 6) (v := .ref (q 4)) dX8_cost_27 m_X8_cost_f19 in_X8_cost_X8 rfl (by decide) rfl (by omega) rfl rfl ?_
      refine z_iload_n (j := 2) dX8_cost_30 rfl rfl ?_
      refine z_iconst dX8_cost_31 ?_
      refine z_iast (i := 4) (g := ma_22 4) 0 (cM cI cJ cZ q mi (va_up ma_22 4 (va_up (ma_22 4) z.toNat 0))) dX8_cost_32 (by omega) rfl rfl (by omega) (by omega) (by omega) la_4 ?_
      refine z_aload_n (j := 1) dX8_cost_33 rfl rfl ?_
      refine z_callVi (i := 0) (ci := 8) (As := []) (rest := []) (c_X8_soonestNow  hq hR1 (by omega)) dX8_cost_34 gX8_cost_X8_soonestNow rfl cd_X8_soonestNow ⟨Nat.le_of_ble_eq_true rfl, Nat.le_of_ble_eq_true rfl⟩ rfl rfl (by omega) rfl rfl rfl (Nat.le_of_ble_eq_true rfl) ⟨Nat.zero_le _, Nat.zero_le _⟩ (fun r_34 g_34 hp_34 => ?_)
      obtain ⟨e_34, ma_34, he_34, rfl, rfl⟩ := hp_34
      rw [hE1] at he_34
      have hs34 := soonX_rng he_34.1
      have hko : ∀ k, k ≠ 10 → k ≠ 11 → va_up ma_34 4 (va_up (ma_34 4) z.toNat 1) k = ma k := fun k a1 a2 => by
        by_cases hq : k = 4
        · rw [hq, up_s, he_34.2 4 (by decide) (by decide), up_s, bx_uu, he_22.2 4 (by decide) (by decide), ← hB1, up_id]
        · rw [up_n hq, he_34.2 k a1 a2, up_n hq, he_22.2 k a1 a2]
      refine z_istore_n [(3, .int (iI e_34)), (2, .int (iI e_22)), (0, .ref (q 0)), (1, .int (iI z))] dX8_cost_37 rfl (by decide) rfl ?_
      refine z_aload_n (j := 2) dX8_cost_38 rfl rfl ?_
      refine z_getf (i := 0) (ci := 8) (k := 6) (v := .ref (q 4)) dX8_cost_39 m_X8_cost_f19 in_X8_cost_X8 rfl (by decide) rfl (by omega) rfl rfl ?_
      refine z_iload_n (j := 3) dX8_cost_42 rfl rfl ?_
      refine z_iconst dX8_cost_43 ?_
      refine z_iast (i := 4) (g := ma_34 4) 0 (cM cI cJ cZ q mi (va_up ma_34 4 (va_up (ma_34 4) z.toNat 1))) dX8_cost_44 (by omega) rfl rfl (by omega) (by omega) (by omega) la_4 ?_
      refine z_iload_n (j := 1) dX8_cost_45 rfl rfl ?_
      refine z_if_lt (tgt := 53) dX8_cost_46 (by decide) (by omega) (fun c_46 => ?_) (fun c_46 => ?_)
      · refine z_bipush dX8_cost_53 (by decide) ?_
        refine z_goto (tgt := 61) dX8_cost_55 (by decide) ?_
        exact z_iret dX8_cost_61 ⟨_, _, (by
      unfold spCost; rw [if_neg (by rw [hnA]; omega), if_neg (by rw [hrb]; omega)]
      refine ⟨⟨e_22, e_34, he_22.1, he_34.1, ?_⟩, vM_s hko, MOk_s hO hko⟩
      first
        | rw [if_pos (by omega)]
        | rw [if_neg (by omega)]), rfl, rfl⟩
      · refine z_iload_n (j := 0) dX8_cost_49 rfl rfl ?_
        refine z_if_ge (tgt := 58) dX8_cost_50 (by decide) (by omega) (fun c_50 => ?_) (fun c_50 => ?_)
        · refine z_iload_n (j := 1) dX8_cost_58 rfl rfl ?_
          refine z_iload_n (j := 0) dX8_cost_59 rfl rfl ?_
          refine z_isub dX8_cost_60 ?_
          exact z_iret dX8_cost_61 ⟨_, _, (by
      unfold spCost; rw [if_neg (by rw [hnA]; omega), if_neg (by rw [hrb]; omega)]
      refine ⟨⟨e_22, e_34, he_22.1, he_34.1, ?_⟩, vM_s hko, MOk_s hO hko⟩
      first
        | rw [if_pos (by omega)]
        | rw [if_neg (by omega)]), rfl, rfl⟩
        · refine z_bipush dX8_cost_53 (by decide) ?_
          refine z_goto (tgt := 61) dX8_cost_55 (by decide) ?_
          exact z_iret dX8_cost_61 ⟨_, _, (by
      unfold spCost; rw [if_neg (by rw [hnA]; omega), if_neg (by rw [hrb]; omega)]
      refine ⟨⟨e_22, e_34, he_22.1, he_34.1, ?_⟩, vM_s hko, MOk_s hO hko⟩
      first
        | rw [if_pos (by omega)]
        | rw [if_neg (by omega)]), rfl, rfl⟩
    · refine z_iconst dX8_cost_19 ?_
      exact z_iret dX8_cost_20 ⟨_, _, (by
      have hrb : rB (aR (vM mi ma)) z.toNat = ma 4 z.toNat := nrm_in (by omega)
      unfold spCost; rw [if_neg (by rw [hnA]; omega), if_pos (by rw [hrb]; omega)]; exact ⟨rfl, rfl, hO⟩), rfl, rfl⟩
