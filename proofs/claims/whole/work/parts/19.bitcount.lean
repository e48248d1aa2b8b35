def popN (m : Nat) : Nat := m % 2 + m / 2 % 2 + m / 4 % 2 + m / 8 % 2 + m / 16 % 2 + m / 32 % 2 + m / 64 % 2 + m / 128 % 2 + m / 256 % 2 + m / 512 % 2 + m / 1024 % 2 + m / 2048 % 2 + m / 4096 % 2 + m / 8192 % 2 + m / 16384 % 2 + m / 32768 % 2
def bc1 (m : Nat) : Nat := m - (m / 2 &&& 1431655765)
def bc2 (m : Nat) : Nat := (bc1 m &&& 858993459) + (bc1 m / 4 &&& 858993459)
def bc3 (m : Nat) : Nat := (bc2 m + bc2 m / 16) &&& 252645135
def bc4 (m : Nat) : Nat := bc3 m + bc3 m / 256
def bc5 (m : Nat) : Nat := bc4 m + bc4 m / 65536
theorem bc_r0 : ((List.range 8).all fun a => (List.range 256).all fun b => bc5 (256 * (0 + a) + b) &&& 63 == popN (256 * (0 + a) + b)) = true := by decide +kernel
theorem bc_r1 : ((List.range 8).all fun a => (List.range 256).all fun b => bc5 (256 * (8 + a) + b) &&& 63 == popN (256 * (8 + a) + b)) = true := by decide +kernel
theorem bc_r2 : ((List.range 8).all fun a => (List.range 256).all fun b => bc5 (256 * (16 + a) + b) &&& 63 == popN (256 * (16 + a) + b)) = true := by decide +kernel
theorem bc_r3 : ((List.range 8).all fun a => (List.range 256).all fun b => bc5 (256 * (24 + a) + b) &&& 63 == popN (256 * (24 + a) + b)) = true := by decide +kernel
theorem bc_r4 : ((List.range 8).all fun a => (List.range 256).all fun b => bc5 (256 * (32 + a) + b) &&& 63 == popN (256 * (32 + a) + b)) = true := by decide +kernel
theorem bc_r5 : ((List.range 8).all fun a => (List.range 256).all fun b => bc5 (256 * (40 + a) + b) &&& 63 == popN (256 * (40 + a) + b)) = true := by decide +kernel
theorem bc_r6 : ((List.range 8).all fun a => (List.range 256).all fun b => bc5 (256 * (48 + a) + b) &&& 63 == popN (256 * (48 + a) + b)) = true := by decide +kernel
theorem bc_r7 : ((List.range 8).all fun a => (List.range 256).all fun b => bc5 (256 * (56 + a) + b) &&& 63 == popN (256 * (56 + a) + b)) = true := by decide +kernel
theorem bc_r8 : ((List.range 8).all fun a => (List.range 256).all fun b => bc5 (256 * (64 + a) + b) &&& 63 == popN (256 * (64 + a) + b)) = true := by decide +kernel
theorem bc_r9 : ((List.range 8).all fun a => (List.range 256).all fun b => bc5 (256 * (72 + a) + b) &&& 63 == popN (256 * (72 + a) + b)) = true := by decide +kernel
theorem bc_r10 : ((List.range 8).all fun a => (List.range 256).all fun b => bc5 (256 * (80 + a) + b) &&& 63 == popN (256 * (80 + a) + b)) = true := by decide +kernel
theorem bc_r11 : ((List.range 8).all fun a => (List.range 256).all fun b => bc5 (256 * (88 + a) + b) &&& 63 == popN (256 * (88 + a) + b)) = true := by decide +kernel
theorem bc_r12 : ((List.range 8).all fun a => (List.range 256).all fun b => bc5 (256 * (96 + a) + b) &&& 63 == popN (256 * (96 + a) + b)) = true := by decide +kernel
theorem bc_r13 : ((List.range 8).all fun a => (List.range 256).all fun b => bc5 (256 * (104 + a) + b) &&& 63 == popN (256 * (104 + a) + b)) = true := by decide +kernel
theorem bc_r14 : ((List.range 8).all fun a => (List.range 256).all fun b => bc5 (256 * (112 + a) + b) &&& 63 == popN (256 * (112 + a) + b)) = true := by decide +kernel
theorem bc_r15 : ((List.range 8).all fun a => (List.range 256).all fun b => bc5 (256 * (120 + a) + b) &&& 63 == popN (256 * (120 + a) + b)) = true := by decide +kernel
theorem bc_r16 : ((List.range 8).all fun a => (List.range 256).all fun b => bc5 (256 * (128 + a) + b) &&& 63 == popN (256 * (128 + a) + b)) = true := by decide +kernel
theorem bc_r17 : ((List.range 8).all fun a => (List.range 256).all fun b => bc5 (256 * (136 + a) + b) &&& 63 == popN (256 * (136 + a) + b)) = true := by decide +kernel
theorem bc_r18 : ((List.range 8).all fun a => (List.range 256).all fun b => bc5 (256 * (144 + a) + b) &&& 63 == popN (256 * (144 + a) + b)) = true := by decide +kernel
theorem bc_r19 : ((List.range 8).all fun a => (List.range 256).all fun b => bc5 (256 * (152 + a) + b) &&& 63 == popN (256 * (152 + a) + b)) = true := by decide +kernel
theorem bc_r20 : ((List.range 8).all fun a => (List.range 256).all fun b => bc5 (256 * (160 + a) + b) &&& 63 == popN (256 * (160 + a) + b)) = true := by decide +kernel
theorem bc_r21 : ((List.range 8).all fun a => (List.range 256).all fun b => bc5 (256 * (168 + a) + b) &&& 63 == popN (256 * (168 + a) + b)) = true := by decide +kernel
theorem bc_r22 : ((List.range 8).all fun a => (List.range 256).all fun b => bc5 (256 * (176 + a) + b) &&& 63 == popN (256 * (176 + a) + b)) = true := by decide +kernel
theorem bc_r23 : ((List.range 8).all fun a => (List.range 256).all fun b => bc5 (256 * (184 + a) + b) &&& 63 == popN (256 * (184 + a) + b)) = true := by decide +kernel
theorem bc_r24 : ((List.range 8).all fun a => (List.range 256).all fun b => bc5 (256 * (192 + a) + b) &&& 63 == popN (256 * (192 + a) + b)) = true := by decide +kernel
theorem bc_r25 : ((List.range 8).all fun a => (List.range 256).all fun b => bc5 (256 * (200 + a) + b) &&& 63 == popN (256 * (200 + a) + b)) = true := by decide +kernel
theorem bc_r26 : ((List.range 8).all fun a => (List.range 256).all fun b => bc5 (256 * (208 + a) + b) &&& 63 == popN (256 * (208 + a) + b)) = true := by decide +kernel
theorem bc_r27 : ((List.range 8).all fun a => (List.range 256).all fun b => bc5 (256 * (216 + a) + b) &&& 63 == popN (256 * (216 + a) + b)) = true := by decide +kernel
theorem bc_r28 : ((List.range 8).all fun a => (List.range 256).all fun b => bc5 (256 * (224 + a) + b) &&& 63 == popN (256 * (224 + a) + b)) = true := by decide +kernel
theorem bc_r29 : ((List.range 8).all fun a => (List.range 256).all fun b => bc5 (256 * (232 + a) + b) &&& 63 == popN (256 * (232 + a) + b)) = true := by decide +kernel
theorem bc_r30 : ((List.range 8).all fun a => (List.range 256).all fun b => bc5 (256 * (240 + a) + b) &&& 63 == popN (256 * (240 + a) + b)) = true := by decide +kernel
theorem bc_r31 : ((List.range 8).all fun a => (List.range 256).all fun b => bc5 (256 * (248 + a) + b) &&& 63 == popN (256 * (248 + a) + b)) = true := by decide +kernel
theorem bc_rr : ∀ k, k < 32 → ((List.range 8).all fun a => (List.range 256).all fun b => bc5 (256 * (8 * k + a) + b) &&& 63 == popN (256 * (8 * k + a) + b)) = true := by
  intro k hk
  match k, hk with
  | 0, _ => exact bc_r0
  | 1, _ => exact bc_r1
  | 2, _ => exact bc_r2
  | 3, _ => exact bc_r3
  | 4, _ => exact bc_r4
  | 5, _ => exact bc_r5
  | 6, _ => exact bc_r6
  | 7, _ => exact bc_r7
  | 8, _ => exact bc_r8
  | 9, _ => exact bc_r9
  | 10, _ => exact bc_r10
  | 11, _ => exact bc_r11
  | 12, _ => exact bc_r12
  | 13, _ => exact bc_r13
  | 14, _ => exact bc_r14
  | 15, _ => exact bc_r15
  | 16, _ => exact bc_r16
  | 17, _ => exact bc_r17
  | 18, _ => exact bc_r18
  | 19, _ => exact bc_r19
  | 20, _ => exact bc_r20
  | 21, _ => exact bc_r21
  | 22, _ => exact bc_r22
  | 23, _ => exact bc_r23
  | 24, _ => exact bc_r24
  | 25, _ => exact bc_r25
  | 26, _ => exact bc_r26
  | 27, _ => exact bc_r27
  | 28, _ => exact bc_r28
  | 29, _ => exact bc_r29
  | 30, _ => exact bc_r30
  | 31, _ => exact bc_r31
  | k + 32, h => exact absurd h (by omega)
theorem bc_pop {m : Nat} (h : m < 65536) : bc5 m &&& 63 = popN m := by
  have h1 := List.all_eq_true.mp (bc_rr (m / 256 / 8) (by omega)) (m / 256 % 8) (List.mem_range.mpr (by omega))
  have h2 := List.all_eq_true.mp h1 (m % 256) (List.mem_range.mpr (by omega))
  rw [show 256 * (8 * (m / 256 / 8) + m / 256 % 8) + m % 256 = m by omega] at h2
  exact beq_iff_eq.mp h2
