/-! the worlds: what the cells of the two sides hold, by numbers -/
abbrev tysC (cI cJ cZ cR : ClassId) : List (ClassId × FieldType) := [(cI, .int), (cJ, .long), (cZ, .boolean), (cR, .object "PoleBehind$Row")]
def xAr (c : ClassId) (len : Nat) (g : Nat → Int) : va_E := .inl (c, len, .inl (fun k => iI (g k)))
def cX (cI cJ cZ cR : ClassId) (q : Nat → Nat) (w d : Nat) (xi : Nat → Int) (xa : Nat → Nat → Int) : Nat → va_E := fun i => match i with
  | 0 => .inr (7, [.ref (q 1), .ref (q (10 + w)), .ref (q (10 + d)), .ref (q 20), .ref (q 21), .ref (q 24), .ref (q 27), .ref (q 29), .int (iI (xi 0)), .int (iI (xi 1))])
  | 1 => .inl (cR, 4, .inr (.inr (.inr (.inr (fun j => some (q (2 + j)))))))
  | 2 => .inr (3, [.ref (q (6 + 0)), .int (iI (xi (2 + 0))), .int (iI (xi (6 + 0)))])
  | 3 => .inr (3, [.ref (q (6 + 1)), .int (iI (xi (2 + 1))), .int (iI (xi (6 + 1)))])
  | 4 => .inr (3, [.ref (q (6 + 2)), .int (iI (xi (2 + 2))), .int (iI (xi (6 + 2)))])
  | 5 => .inr (3, [.ref (q (6 + 3)), .int (iI (xi (2 + 3))), .int (iI (xi (6 + 3)))])
  | 6 => xAr cI 60 (xa 0)
  | 7 => xAr cI 60 (xa 1)
  | 8 => xAr cI 60 (xa 2)
  | 9 => xAr cI 60 (xa 3)
  | 10 => .inr (2, [.ref (q (12 + 0)), .ref (q (14 + 0)), .ref (q (16 + 0)), .ref (q (18 + 0)), .int (iI (xi (10 + 0))), .int (iI (xi (12 + 0)))])
  | 11 => .inr (2, [.ref (q (12 + 1)), .ref (q (14 + 1)), .ref (q (16 + 1)), .ref (q (18 + 1)), .int (iI (xi (10 + 1))), .int (iI (xi (12 + 1)))])
  | 12 => xAr cI 16 (xa 4)
  | 13 => xAr cI 16 (xa 5)
  | 14 => xAr cI 16 (xa 6)
  | 15 => xAr cI 16 (xa 7)
  | 16 => xAr cZ 16 (xa 8)
  | 17 => xAr cZ 16 (xa 9)
  | 18 => xAr cZ 16 (xa 10)
  | 19 => xAr cZ 16 (xa 11)
  | 20 => .inr (5, [.int (iI (xi 14))])
  | 21 => .inr (0, [.ref (q 22), .ref (q 23), .int (iI (xi 15)), .int (iI (xi 16)), .int (iI (xi 17))])
  | 22 => xAr cI 18 (xa 12)
  | 23 => xAr cI 18 (xa 13)
  | 24 => .inr (1, [.ref (q 25), .ref (q 26), .int (iI (xi 18))])
  | 25 => xAr cI 8 (xa 14)
  | 26 => xAr cI 8 (xa 15)
  | 27 => .inr (4, [.ref (q 28), .int (iI (xi 19))])
  | 28 => .inl (cJ, 832, .inr (.inl (fun k => lI (xa 17 k))))
  | 29 => .inr (6, [.ref (q 30)])
  | 30 => xAr cI 512 (xa 16)
  | _ => xAr cI 0 (fun _ => 0)
theorem cX_row {cI cJ cZ cR : ClassId} {q : Nat → Nat} {w d : Nat} {xi : Nat → Int} {xa : Nat → Nat → Int} {j : Nat} (h : j < 4) : cX cI cJ cZ cR q w d xi xa (2 + j) = .inr (3, [.ref (q (6 + j)), .int (iI (xi (2 + j))), .int (iI (xi (6 + j)))]) := by
  match j, h with
  | 0, _ => rfl
  | 1, _ => rfl
  | 2, _ => rfl
  | 3, _ => rfl
theorem cX_num {cI cJ cZ cR : ClassId} {q : Nat → Nat} {w d : Nat} {xi : Nat → Int} {xa : Nat → Nat → Int} {j : Nat} (h : j < 4) : cX cI cJ cZ cR q w d xi xa (6 + j) = xAr cI 60 (xa j) := by
  match j, h with
  | 0, _ => rfl
  | 1, _ => rfl
  | 2, _ => rfl
  | 3, _ => rfl
theorem cX_rv {cI cJ cZ cR : ClassId} {q : Nat → Nat} {w d : Nat} {xi : Nat → Int} {xa : Nat → Nat → Int} {b : Nat} (h : b < 2) : cX cI cJ cZ cR q w d xi xa (10 + b) = .inr (2, [.ref (q (12 + b)), .ref (q (14 + b)), .ref (q (16 + b)), .ref (q (18 + b)), .int (iI (xi (10 + b))), .int (iI (xi (12 + b)))]) := by
  match b, h with
  | 0, _ => rfl
  | 1, _ => rfl
theorem cX_kind {cI cJ cZ cR : ClassId} {q : Nat → Nat} {w d : Nat} {xi : Nat → Int} {xa : Nat → Nat → Int} {b : Nat} (h : b < 2) : cX cI cJ cZ cR q w d xi xa (12 + b) = xAr cI 16 (xa (4 + b)) := by
  match b, h with
  | 0, _ => rfl
  | 1, _ => rfl
theorem cX_mud {cI cJ cZ cR : ClassId} {q : Nat → Nat} {w d : Nat} {xi : Nat → Int} {xa : Nat → Nat → Int} {b : Nat} (h : b < 2) : cX cI cJ cZ cR q w d xi xa (14 + b) = xAr cI 16 (xa (6 + b)) := by
  match b, h with
  | 0, _ => rfl
  | 1, _ => rfl
theorem cX_deep {cI cJ cZ cR : ClassId} {q : Nat → Nat} {w d : Nat} {xi : Nat → Int} {xa : Nat → Nat → Int} {b : Nat} (h : b < 2) : cX cI cJ cZ cR q w d xi xa (16 + b) = xAr cZ 16 (xa (8 + b)) := by
  match b, h with
  | 0, _ => rfl
  | 1, _ => rfl
theorem cX_brid {cI cJ cZ cR : ClassId} {q : Nat → Nat} {w d : Nat} {xi : Nat → Int} {xa : Nat → Nat → Int} {b : Nat} (h : b < 2) : cX cI cJ cZ cR q w d xi xa (18 + b) = xAr cZ 16 (xa (10 + b)) := by
  match b, h with
  | 0, _ => rfl
  | 1, _ => rfl
theorem lx_trace {cI cJ cZ cR : ClassId} {q : Nat → Nat} {w d : Nat} {xi : Nat → Int} {xa : Nat → Nat → Int} {v : Int} : va_up (cX cI cJ cZ cR q w d xi xa) (0) (.inr (7, [.ref (q 1), .ref (q (10 + w)), .ref (q (10 + d)), .ref (q 20), .ref (q 21), .ref (q 24), .ref (q 27), .ref (q 29), .int (iI (xi 0)), .int (iI (xi 1))].set 8 (.int (iI v)))) = cX cI cJ cZ cR q w d (va_up xi 0 v) xa := by
  funext i
  match i with
  | 0 => rfl
  | 1 => rfl
  | 2 => rfl
  | 3 => rfl
  | 4 => rfl
  | 5 => rfl
  | 6 => rfl
  | 7 => rfl
  | 8 => rfl
  | 9 => rfl
  | 10 => rfl
  | 11 => rfl
  | 12 => rfl
  | 13 => rfl
  | 14 => rfl
  | 15 => rfl
  | 16 => rfl
  | 17 => rfl
  | 18 => rfl
  | 19 => rfl
  | 20 => rfl
  | 21 => rfl
  | 22 => rfl
  | 23 => rfl
  | 24 => rfl
  | 25 => rfl
  | 26 => rfl
  | 27 => rfl
  | 28 => rfl
  | 29 => rfl
  | 30 => rfl
  | k + 31 => exact (up_n (by omega)).trans rfl
theorem lx_fault {cI cJ cZ cR : ClassId} {q : Nat → Nat} {w d : Nat} {xi : Nat → Int} {xa : Nat → Nat → Int} {v : Int} : va_up (cX cI cJ cZ cR q w d xi xa) (0) (.inr (7, [.ref (q 1), .ref (q (10 + w)), .ref (q (10 + d)), .ref (q 20), .ref (q 21), .ref (q 24), .ref (q 27), .ref (q 29), .int (iI (xi 0)), .int (iI (xi 1))].set 9 (.int (iI v)))) = cX cI cJ cZ cR q w d (va_up xi 1 v) xa := by
  funext i
  match i with
  | 0 => rfl
  | 1 => rfl
  | 2 => rfl
  | 3 => rfl
  | 4 => rfl
  | 5 => rfl
  | 6 => rfl
  | 7 => rfl
  | 8 => rfl
  | 9 => rfl
  | 10 => rfl
  | 11 => rfl
  | 12 => rfl
  | 13 => rfl
  | 14 => rfl
  | 15 => rfl
  | 16 => rfl
  | 17 => rfl
  | 18 => rfl
  | 19 => rfl
  | 20 => rfl
  | 21 => rfl
  | 22 => rfl
  | 23 => rfl
  | 24 => rfl
  | 25 => rfl
  | 26 => rfl
  | 27 => rfl
  | 28 => rfl
  | 29 => rfl
  | 30 => rfl
  | k + 31 => exact (up_n (by omega)).trans rfl
theorem lx_water {cI cJ cZ cR : ClassId} {q : Nat → Nat} {w d : Nat} {xi : Nat → Int} {xa : Nat → Nat → Int} {v : Nat} : va_up (cX cI cJ cZ cR q w d xi xa) (0) (.inr (7, [.ref (q 1), .ref (q (10 + w)), .ref (q (10 + d)), .ref (q 20), .ref (q 21), .ref (q 24), .ref (q 27), .ref (q 29), .int (iI (xi 0)), .int (iI (xi 1))].set 1 (.ref (q (10 + v))))) = cX cI cJ cZ cR q v d xi xa := by
  funext i
  match i with
  | 0 => rfl
  | 1 => rfl
  | 2 => rfl
  | 3 => rfl
  | 4 => rfl
  | 5 => rfl
  | 6 => rfl
  | 7 => rfl
  | 8 => rfl
  | 9 => rfl
  | 10 => rfl
  | 11 => rfl
  | 12 => rfl
  | 13 => rfl
  | 14 => rfl
  | 15 => rfl
  | 16 => rfl
  | 17 => rfl
  | 18 => rfl
  | 19 => rfl
  | 20 => rfl
  | 21 => rfl
  | 22 => rfl
  | 23 => rfl
  | 24 => rfl
  | 25 => rfl
  | 26 => rfl
  | 27 => rfl
  | 28 => rfl
  | 29 => rfl
  | 30 => rfl
  | k + 31 => exact (up_n (by omega)).trans rfl
theorem lx_draft {cI cJ cZ cR : ClassId} {q : Nat → Nat} {w d : Nat} {xi : Nat → Int} {xa : Nat → Nat → Int} {v : Nat} : va_up (cX cI cJ cZ cR q w d xi xa) (0) (.inr (7, [.ref (q 1), .ref (q (10 + w)), .ref (q (10 + d)), .ref (q 20), .ref (q 21), .ref (q 24), .ref (q 27), .ref (q 29), .int (iI (xi 0)), .int (iI (xi 1))].set 2 (.ref (q (10 + v))))) = cX cI cJ cZ cR q w v xi xa := by
  funext i
  match i with
  | 0 => rfl
  | 1 => rfl
  | 2 => rfl
  | 3 => rfl
  | 4 => rfl
  | 5 => rfl
  | 6 => rfl
  | 7 => rfl
  | 8 => rfl
  | 9 => rfl
  | 10 => rfl
  | 11 => rfl
  | 12 => rfl
  | 13 => rfl
  | 14 => rfl
  | 15 => rfl
  | 16 => rfl
  | 17 => rfl
  | 18 => rfl
  | 19 => rfl
  | 20 => rfl
  | 21 => rfl
  | 22 => rfl
  | 23 => rfl
  | 24 => rfl
  | 25 => rfl
  | 26 => rfl
  | 27 => rfl
  | 28 => rfl
  | 29 => rfl
  | 30 => rfl
  | k + 31 => exact (up_n (by omega)).trans rfl
theorem lx_lane {cI cJ cZ cR : ClassId} {q : Nat → Nat} {w d : Nat} {xi : Nat → Int} {xa : Nat → Nat → Int} {v : Int} {j : Nat} (h : j < 4) : va_up (cX cI cJ cZ cR q w d xi xa) (2 + j) (.inr (3, [.ref (q (6 + j)), .int (iI (xi (2 + j))), .int (iI (xi (6 + j)))].set 1 (.int (iI v)))) = cX cI cJ cZ cR q w d (va_up xi (2 + j) v) xa := by
  match j, h with
  | 0, _ =>
    funext i
    match i with
    | 0 => rfl
    | 1 => rfl
    | 2 => rfl
    | 3 => rfl
    | 4 => rfl
    | 5 => rfl
    | 6 => rfl
    | 7 => rfl
    | 8 => rfl
    | 9 => rfl
    | 10 => rfl
    | 11 => rfl
    | 12 => rfl
    | 13 => rfl
    | 14 => rfl
    | 15 => rfl
    | 16 => rfl
    | 17 => rfl
    | 18 => rfl
    | 19 => rfl
    | 20 => rfl
    | 21 => rfl
    | 22 => rfl
    | 23 => rfl
    | 24 => rfl
    | 25 => rfl
    | 26 => rfl
    | 27 => rfl
    | 28 => rfl
    | 29 => rfl
    | 30 => rfl
    | k + 31 => exact (up_n (by omega)).trans rfl
  | 1, _ =>
    funext i
    match i with
    | 0 => rfl
    | 1 => rfl
    | 2 => rfl
    | 3 => rfl
    | 4 => rfl
    | 5 => rfl
    | 6 => rfl
    | 7 => rfl
    | 8 => rfl
    | 9 => rfl
    | 10 => rfl
    | 11 => rfl
    | 12 => rfl
    | 13 => rfl
    | 14 => rfl
    | 15 => rfl
    | 16 => rfl
    | 17 => rfl
    | 18 => rfl
    | 19 => rfl
    | 20 => rfl
    | 21 => rfl
    | 22 => rfl
    | 23 => rfl
    | 24 => rfl
    | 25 => rfl
    | 26 => rfl
    | 27 => rfl
    | 28 => rfl
    | 29 => rfl
    | 30 => rfl
    | k + 31 => exact (up_n (by omega)).trans rfl
  | 2, _ =>
    funext i
    match i with
    | 0 => rfl
    | 1 => rfl
    | 2 => rfl
    | 3 => rfl
    | 4 => rfl
    | 5 => rfl
    | 6 => rfl
    | 7 => rfl
    | 8 => rfl
    | 9 => rfl
    | 10 => rfl
    | 11 => rfl
    | 12 => rfl
    | 13 => rfl
    | 14 => rfl
    | 15 => rfl
    | 16 => rfl
    | 17 => rfl
    | 18 => rfl
    | 19 => rfl
    | 20 => rfl
    | 21 => rfl
    | 22 => rfl
    | 23 => rfl
    | 24 => rfl
    | 25 => rfl
    | 26 => rfl
    | 27 => rfl
    | 28 => rfl
    | 29 => rfl
    | 30 => rfl
    | k + 31 => exact (up_n (by omega)).trans rfl
  | 3, _ =>
    funext i
    match i with
    | 0 => rfl
    | 1 => rfl
    | 2 => rfl
    | 3 => rfl
    | 4 => rfl
    | 5 => rfl
    | 6 => rfl
    | 7 => rfl
    | 8 => rfl
    | 9 => rfl
    | 10 => rfl
    | 11 => rfl
    | 12 => rfl
    | 13 => rfl
    | 14 => rfl
    | 15 => rfl
    | 16 => rfl
    | 17 => rfl
    | 18 => rfl
    | 19 => rfl
    | 20 => rfl
    | 21 => rfl
    | 22 => rfl
    | 23 => rfl
    | 24 => rfl
    | 25 => rfl
    | 26 => rfl
    | 27 => rfl
    | 28 => rfl
    | 29 => rfl
    | 30 => rfl
    | k + 31 => exact (up_n (by omega)).trans rfl
theorem lx_len {cI cJ cZ cR : ClassId} {q : Nat → Nat} {w d : Nat} {xi : Nat → Int} {xa : Nat → Nat → Int} {v : Int} {j : Nat} (h : j < 4) : va_up (cX cI cJ cZ cR q w d xi xa) (2 + j) (.inr (3, [.ref (q (6 + j)), .int (iI (xi (2 + j))), .int (iI (xi (6 + j)))].set 2 (.int (iI v)))) = cX cI cJ cZ cR q w d (va_up xi (6 + j) v) xa := by
  match j, h with
  | 0, _ =>
    funext i
    match i with
    | 0 => rfl
    | 1 => rfl
    | 2 => rfl
    | 3 => rfl
    | 4 => rfl
    | 5 => rfl
    | 6 => rfl
    | 7 => rfl
    | 8 => rfl
    | 9 => rfl
    | 10 => rfl
    | 11 => rfl
    | 12 => rfl
    | 13 => rfl
    | 14 => rfl
    | 15 => rfl
    | 16 => rfl
    | 17 => rfl
    | 18 => rfl
    | 19 => rfl
    | 20 => rfl
    | 21 => rfl
    | 22 => rfl
    | 23 => rfl
    | 24 => rfl
    | 25 => rfl
    | 26 => rfl
    | 27 => rfl
    | 28 => rfl
    | 29 => rfl
    | 30 => rfl
    | k + 31 => exact (up_n (by omega)).trans rfl
  | 1, _ =>
    funext i
    match i with
    | 0 => rfl
    | 1 => rfl
    | 2 => rfl
    | 3 => rfl
    | 4 => rfl
    | 5 => rfl
    | 6 => rfl
    | 7 => rfl
    | 8 => rfl
    | 9 => rfl
    | 10 => rfl
    | 11 => rfl
    | 12 => rfl
    | 13 => rfl
    | 14 => rfl
    | 15 => rfl
    | 16 => rfl
    | 17 => rfl
    | 18 => rfl
    | 19 => rfl
    | 20 => rfl
    | 21 => rfl
    | 22 => rfl
    | 23 => rfl
    | 24 => rfl
    | 25 => rfl
    | 26 => rfl
    | 27 => rfl
    | 28 => rfl
    | 29 => rfl
    | 30 => rfl
    | k + 31 => exact (up_n (by omega)).trans rfl
  | 2, _ =>
    funext i
    match i with
    | 0 => rfl
    | 1 => rfl
    | 2 => rfl
    | 3 => rfl
    | 4 => rfl
    | 5 => rfl
    | 6 => rfl
    | 7 => rfl
    | 8 => rfl
    | 9 => rfl
    | 10 => rfl
    | 11 => rfl
    | 12 => rfl
    | 13 => rfl
    | 14 => rfl
    | 15 => rfl
    | 16 => rfl
    | 17 => rfl
    | 18 => rfl
    | 19 => rfl
    | 20 => rfl
    | 21 => rfl
    | 22 => rfl
    | 23 => rfl
    | 24 => rfl
    | 25 => rfl
    | 26 => rfl
    | 27 => rfl
    | 28 => rfl
    | 29 => rfl
    | 30 => rfl
    | k + 31 => exact (up_n (by omega)).trans rfl
  | 3, _ =>
    funext i
    match i with
    | 0 => rfl
    | 1 => rfl
    | 2 => rfl
    | 3 => rfl
    | 4 => rfl
    | 5 => rfl
    | 6 => rfl
    | 7 => rfl
    | 8 => rfl
    | 9 => rfl
    | 10 => rfl
    | 11 => rfl
    | 12 => rfl
    | 13 => rfl
    | 14 => rfl
    | 15 => rfl
    | 16 => rfl
    | 17 => rfl
    | 18 => rfl
    | 19 => rfl
    | 20 => rfl
    | 21 => rfl
    | 22 => rfl
    | 23 => rfl
    | 24 => rfl
    | 25 => rfl
    | 26 => rfl
    | 27 => rfl
    | 28 => rfl
    | 29 => rfl
    | 30 => rfl
    | k + 31 => exact (up_n (by omega)).trans rfl
theorem lx_count {cI cJ cZ cR : ClassId} {q : Nat → Nat} {w d : Nat} {xi : Nat → Int} {xa : Nat → Nat → Int} {v : Int} {b : Nat} (h : b < 2) : va_up (cX cI cJ cZ cR q w d xi xa) (10 + b) (.inr (2, [.ref (q (12 + b)), .ref (q (14 + b)), .ref (q (16 + b)), .ref (q (18 + b)), .int (iI (xi (10 + b))), .int (iI (xi (12 + b)))].set 4 (.int (iI v)))) = cX cI cJ cZ cR q w d (va_up xi (10 + b) v) xa := by
  match b, h with
  | 0, _ =>
    funext i
    match i with
    | 0 => rfl
    | 1 => rfl
    | 2 => rfl
    | 3 => rfl
    | 4 => rfl
    | 5 => rfl
    | 6 => rfl
    | 7 => rfl
    | 8 => rfl
    | 9 => rfl
    | 10 => rfl
    | 11 => rfl
    | 12 => rfl
    | 13 => rfl
    | 14 => rfl
    | 15 => rfl
    | 16 => rfl
    | 17 => rfl
    | 18 => rfl
    | 19 => rfl
    | 20 => rfl
    | 21 => rfl
    | 22 => rfl
    | 23 => rfl
    | 24 => rfl
    | 25 => rfl
    | 26 => rfl
    | 27 => rfl
    | 28 => rfl
    | 29 => rfl
    | 30 => rfl
    | k + 31 => exact (up_n (by omega)).trans rfl
  | 1, _ =>
    funext i
    match i with
    | 0 => rfl
    | 1 => rfl
    | 2 => rfl
    | 3 => rfl
    | 4 => rfl
    | 5 => rfl
    | 6 => rfl
    | 7 => rfl
    | 8 => rfl
    | 9 => rfl
    | 10 => rfl
    | 11 => rfl
    | 12 => rfl
    | 13 => rfl
    | 14 => rfl
    | 15 => rfl
    | 16 => rfl
    | 17 => rfl
    | 18 => rfl
    | 19 => rfl
    | 20 => rfl
    | 21 => rfl
    | 22 => rfl
    | 23 => rfl
    | 24 => rfl
    | 25 => rfl
    | 26 => rfl
    | 27 => rfl
    | 28 => rfl
    | 29 => rfl
    | 30 => rfl
    | k + 31 => exact (up_n (by omega)).trans rfl
theorem lx_pace {cI cJ cZ cR : ClassId} {q : Nat → Nat} {w d : Nat} {xi : Nat → Int} {xa : Nat → Nat → Int} {v : Int} {b : Nat} (h : b < 2) : va_up (cX cI cJ cZ cR q w d xi xa) (10 + b) (.inr (2, [.ref (q (12 + b)), .ref (q (14 + b)), .ref (q (16 + b)), .ref (q (18 + b)), .int (iI (xi (10 + b))), .int (iI (xi (12 + b)))].set 5 (.int (iI v)))) = cX cI cJ cZ cR q w d (va_up xi (12 + b) v) xa := by
  match b, h with
  | 0, _ =>
    funext i
    match i with
    | 0 => rfl
    | 1 => rfl
    | 2 => rfl
    | 3 => rfl
    | 4 => rfl
    | 5 => rfl
    | 6 => rfl
    | 7 => rfl
    | 8 => rfl
    | 9 => rfl
    | 10 => rfl
    | 11 => rfl
    | 12 => rfl
    | 13 => rfl
    | 14 => rfl
    | 15 => rfl
    | 16 => rfl
    | 17 => rfl
    | 18 => rfl
    | 19 => rfl
    | 20 => rfl
    | 21 => rfl
    | 22 => rfl
    | 23 => rfl
    | 24 => rfl
    | 25 => rfl
    | 26 => rfl
    | 27 => rfl
    | 28 => rfl
    | 29 => rfl
    | 30 => rfl
    | k + 31 => exact (up_n (by omega)).trans rfl
  | 1, _ =>
    funext i
    match i with
    | 0 => rfl
    | 1 => rfl
    | 2 => rfl
    | 3 => rfl
    | 4 => rfl
    | 5 => rfl
    | 6 => rfl
    | 7 => rfl
    | 8 => rfl
    | 9 => rfl
    | 10 => rfl
    | 11 => rfl
    | 12 => rfl
    | 13 => rfl
    | 14 => rfl
    | 15 => rfl
    | 16 => rfl
    | 17 => rfl
    | 18 => rfl
    | 19 => rfl
    | 20 => rfl
    | 21 => rfl
    | 22 => rfl
    | 23 => rfl
    | 24 => rfl
    | 25 => rfl
    | 26 => rfl
    | 27 => rfl
    | 28 => rfl
    | 29 => rfl
    | 30 => rfl
    | k + 31 => exact (up_n (by omega)).trans rfl
theorem lx_num {cI cJ cZ cR : ClassId} {q : Nat → Nat} {w d : Nat} {xi : Nat → Int} {xa : Nat → Nat → Int} {z : Int} {k : Nat} {j : Nat} (h : j < 4) : va_up (cX cI cJ cZ cR q w d xi xa) (6 + j) (.inl (cI, 60, .inl (fun i => iI (va_up (xa (j)) k z i)))) = cX cI cJ cZ cR q w d xi (va_up xa (j) (va_up (xa (j)) k z)) := by
  match j, h with
  | 0, _ =>
    funext i
    match i with
    | 0 => rfl
    | 1 => rfl
    | 2 => rfl
    | 3 => rfl
    | 4 => rfl
    | 5 => rfl
    | 6 => rfl
    | 7 => rfl
    | 8 => rfl
    | 9 => rfl
    | 10 => rfl
    | 11 => rfl
    | 12 => rfl
    | 13 => rfl
    | 14 => rfl
    | 15 => rfl
    | 16 => rfl
    | 17 => rfl
    | 18 => rfl
    | 19 => rfl
    | 20 => rfl
    | 21 => rfl
    | 22 => rfl
    | 23 => rfl
    | 24 => rfl
    | 25 => rfl
    | 26 => rfl
    | 27 => rfl
    | 28 => rfl
    | 29 => rfl
    | 30 => rfl
    | k + 31 => exact (up_n (by omega)).trans rfl
  | 1, _ =>
    funext i
    match i with
    | 0 => rfl
    | 1 => rfl
    | 2 => rfl
    | 3 => rfl
    | 4 => rfl
    | 5 => rfl
    | 6 => rfl
    | 7 => rfl
    | 8 => rfl
    | 9 => rfl
    | 10 => rfl
    | 11 => rfl
    | 12 => rfl
    | 13 => rfl
    | 14 => rfl
    | 15 => rfl
    | 16 => rfl
    | 17 => rfl
    | 18 => rfl
    | 19 => rfl
    | 20 => rfl
    | 21 => rfl
    | 22 => rfl
    | 23 => rfl
    | 24 => rfl
    | 25 => rfl
    | 26 => rfl
    | 27 => rfl
    | 28 => rfl
    | 29 => rfl
    | 30 => rfl
    | k + 31 => exact (up_n (by omega)).trans rfl
  | 2, _ =>
    funext i
    match i with
    | 0 => rfl
    | 1 => rfl
    | 2 => rfl
    | 3 => rfl
    | 4 => rfl
    | 5 => rfl
    | 6 => rfl
    | 7 => rfl
    | 8 => rfl
    | 9 => rfl
    | 10 => rfl
    | 11 => rfl
    | 12 => rfl
    | 13 => rfl
    | 14 => rfl
    | 15 => rfl
    | 16 => rfl
    | 17 => rfl
    | 18 => rfl
    | 19 => rfl
    | 20 => rfl
    | 21 => rfl
    | 22 => rfl
    | 23 => rfl
    | 24 => rfl
    | 25 => rfl
    | 26 => rfl
    | 27 => rfl
    | 28 => rfl
    | 29 => rfl
    | 30 => rfl
    | k + 31 => exact (up_n (by omega)).trans rfl
  | 3, _ =>
    funext i
    match i with
    | 0 => rfl
    | 1 => rfl
    | 2 => rfl
    | 3 => rfl
    | 4 => rfl
    | 5 => rfl
    | 6 => rfl
    | 7 => rfl
    | 8 => rfl
    | 9 => rfl
    | 10 => rfl
    | 11 => rfl
    | 12 => rfl
    | 13 => rfl
    | 14 => rfl
    | 15 => rfl
    | 16 => rfl
    | 17 => rfl
    | 18 => rfl
    | 19 => rfl
    | 20 => rfl
    | 21 => rfl
    | 22 => rfl
    | 23 => rfl
    | 24 => rfl
    | 25 => rfl
    | 26 => rfl
    | 27 => rfl
    | 28 => rfl
    | 29 => rfl
    | 30 => rfl
    | k + 31 => exact (up_n (by omega)).trans rfl
theorem lx_akind {cI cJ cZ cR : ClassId} {q : Nat → Nat} {w d : Nat} {xi : Nat → Int} {xa : Nat → Nat → Int} {z : Int} {k : Nat} {b : Nat} (h : b < 2) : va_up (cX cI cJ cZ cR q w d xi xa) (12 + b) (.inl (cI, 16, .inl (fun i => iI (va_up (xa (4 + b)) k z i)))) = cX cI cJ cZ cR q w d xi (va_up xa (4 + b) (va_up (xa (4 + b)) k z)) := by
  match b, h with
  | 0, _ =>
    funext i
    match i with
    | 0 => rfl
    | 1 => rfl
    | 2 => rfl
    | 3 => rfl
    | 4 => rfl
    | 5 => rfl
    | 6 => rfl
    | 7 => rfl
    | 8 => rfl
    | 9 => rfl
    | 10 => rfl
    | 11 => rfl
    | 12 => rfl
    | 13 => rfl
    | 14 => rfl
    | 15 => rfl
    | 16 => rfl
    | 17 => rfl
    | 18 => rfl
    | 19 => rfl
    | 20 => rfl
    | 21 => rfl
    | 22 => rfl
    | 23 => rfl
    | 24 => rfl
    | 25 => rfl
    | 26 => rfl
    | 27 => rfl
    | 28 => rfl
    | 29 => rfl
    | 30 => rfl
    | k + 31 => exact (up_n (by omega)).trans rfl
  | 1, _ =>
    funext i
    match i with
    | 0 => rfl
    | 1 => rfl
    | 2 => rfl
    | 3 => rfl
    | 4 => rfl
    | 5 => rfl
    | 6 => rfl
    | 7 => rfl
    | 8 => rfl
    | 9 => rfl
    | 10 => rfl
    | 11 => rfl
    | 12 => rfl
    | 13 => rfl
    | 14 => rfl
    | 15 => rfl
    | 16 => rfl
    | 17 => rfl
    | 18 => rfl
    | 19 => rfl
    | 20 => rfl
    | 21 => rfl
    | 22 => rfl
    | 23 => rfl
    | 24 => rfl
    | 25 => rfl
    | 26 => rfl
    | 27 => rfl
    | 28 => rfl
    | 29 => rfl
    | 30 => rfl
    | k + 31 => exact (up_n (by omega)).trans rfl
theorem lx_amud {cI cJ cZ cR : ClassId} {q : Nat → Nat} {w d : Nat} {xi : Nat → Int} {xa : Nat → Nat → Int} {z : Int} {k : Nat} {b : Nat} (h : b < 2) : va_up (cX cI cJ cZ cR q w d xi xa) (14 + b) (.inl (cI, 16, .inl (fun i => iI (va_up (xa (6 + b)) k z i)))) = cX cI cJ cZ cR q w d xi (va_up xa (6 + b) (va_up (xa (6 + b)) k z)) := by
  match b, h with
  | 0, _ =>
    funext i
    match i with
    | 0 => rfl
    | 1 => rfl
    | 2 => rfl
    | 3 => rfl
    | 4 => rfl
    | 5 => rfl
    | 6 => rfl
    | 7 => rfl
    | 8 => rfl
    | 9 => rfl
    | 10 => rfl
    | 11 => rfl
    | 12 => rfl
    | 13 => rfl
    | 14 => rfl
    | 15 => rfl
    | 16 => rfl
    | 17 => rfl
    | 18 => rfl
    | 19 => rfl
    | 20 => rfl
    | 21 => rfl
    | 22 => rfl
    | 23 => rfl
    | 24 => rfl
    | 25 => rfl
    | 26 => rfl
    | 27 => rfl
    | 28 => rfl
    | 29 => rfl
    | 30 => rfl
    | k + 31 => exact (up_n (by omega)).trans rfl
  | 1, _ =>
    funext i
    match i with
    | 0 => rfl
    | 1 => rfl
    | 2 => rfl
    | 3 => rfl
    | 4 => rfl
    | 5 => rfl
    | 6 => rfl
    | 7 => rfl
    | 8 => rfl
    | 9 => rfl
    | 10 => rfl
    | 11 => rfl
    | 12 => rfl
    | 13 => rfl
    | 14 => rfl
    | 15 => rfl
    | 16 => rfl
    | 17 => rfl
    | 18 => rfl
    | 19 => rfl
    | 20 => rfl
    | 21 => rfl
    | 22 => rfl
    | 23 => rfl
    | 24 => rfl
    | 25 => rfl
    | 26 => rfl
    | 27 => rfl
    | 28 => rfl
    | 29 => rfl
    | 30 => rfl
    | k + 31 => exact (up_n (by omega)).trans rfl
theorem lx_adeep {cI cJ cZ cR : ClassId} {q : Nat → Nat} {w d : Nat} {xi : Nat → Int} {xa : Nat → Nat → Int} {z : Int} {k : Nat} {b : Nat} (h : b < 2) : va_up (cX cI cJ cZ cR q w d xi xa) (16 + b) (.inl (cZ, 16, .inl (fun i => iI (va_up (xa (8 + b)) k z i)))) = cX cI cJ cZ cR q w d xi (va_up xa (8 + b) (va_up (xa (8 + b)) k z)) := by
  match b, h with
  | 0, _ =>
    funext i
    match i with
    | 0 => rfl
    | 1 => rfl
    | 2 => rfl
    | 3 => rfl
    | 4 => rfl
    | 5 => rfl
    | 6 => rfl
    | 7 => rfl
    | 8 => rfl
    | 9 => rfl
    | 10 => rfl
    | 11 => rfl
    | 12 => rfl
    | 13 => rfl
    | 14 => rfl
    | 15 => rfl
    | 16 => rfl
    | 17 => rfl
    | 18 => rfl
    | 19 => rfl
    | 20 => rfl
    | 21 => rfl
    | 22 => rfl
    | 23 => rfl
    | 24 => rfl
    | 25 => rfl
    | 26 => rfl
    | 27 => rfl
    | 28 => rfl
    | 29 => rfl
    | 30 => rfl
    | k + 31 => exact (up_n (by omega)).trans rfl
  | 1, _ =>
    funext i
    match i with
    | 0 => rfl
    | 1 => rfl
    | 2 => rfl
    | 3 => rfl
    | 4 => rfl
    | 5 => rfl
    | 6 => rfl
    | 7 => rfl
    | 8 => rfl
    | 9 => rfl
    | 10 => rfl
    | 11 => rfl
    | 12 => rfl
    | 13 => rfl
    | 14 => rfl
    | 15 => rfl
    | 16 => rfl
    | 17 => rfl
    | 18 => rfl
    | 19 => rfl
    | 20 => rfl
    | 21 => rfl
    | 22 => rfl
    | 23 => rfl
    | 24 => rfl
    | 25 => rfl
    | 26 => rfl
    | 27 => rfl
    | 28 => rfl
    | 29 => rfl
    | 30 => rfl
    | k + 31 => exact (up_n (by omega)).trans rfl
theorem lx_abrid {cI cJ cZ cR : ClassId} {q : Nat → Nat} {w d : Nat} {xi : Nat → Int} {xa : Nat → Nat → Int} {z : Int} {k : Nat} {b : Nat} (h : b < 2) : va_up (cX cI cJ cZ cR q w d xi xa) (18 + b) (.inl (cZ, 16, .inl (fun i => iI (va_up (xa (10 + b)) k z i)))) = cX cI cJ cZ cR q w d xi (va_up xa (10 + b) (va_up (xa (10 + b)) k z)) := by
  match b, h with
  | 0, _ =>
    funext i
    match i with
    | 0 => rfl
    | 1 => rfl
    | 2 => rfl
    | 3 => rfl
    | 4 => rfl
    | 5 => rfl
    | 6 => rfl
    | 7 => rfl
    | 8 => rfl
    | 9 => rfl
    | 10 => rfl
    | 11 => rfl
    | 12 => rfl
    | 13 => rfl
    | 14 => rfl
    | 15 => rfl
    | 16 => rfl
    | 17 => rfl
    | 18 => rfl
    | 19 => rfl
    | 20 => rfl
    | 21 => rfl
    | 22 => rfl
    | 23 => rfl
    | 24 => rfl
    | 25 => rfl
    | 26 => rfl
    | 27 => rfl
    | 28 => rfl
    | 29 => rfl
    | 30 => rfl
    | k + 31 => exact (up_n (by omega)).trans rfl
  | 1, _ =>
    funext i
    match i with
    | 0 => rfl
    | 1 => rfl
    | 2 => rfl
    | 3 => rfl
    | 4 => rfl
    | 5 => rfl
    | 6 => rfl
    | 7 => rfl
    | 8 => rfl
    | 9 => rfl
    | 10 => rfl
    | 11 => rfl
    | 12 => rfl
    | 13 => rfl
    | 14 => rfl
    | 15 => rfl
    | 16 => rfl
    | 17 => rfl
    | 18 => rfl
    | 19 => rfl
    | 20 => rfl
    | 21 => rfl
    | 22 => rfl
    | 23 => rfl
    | 24 => rfl
    | 25 => rfl
    | 26 => rfl
    | 27 => rfl
    | 28 => rfl
    | 29 => rfl
    | 30 => rfl
    | k + 31 => exact (up_n (by omega)).trans rfl
theorem lx_acts {cI cJ cZ cR : ClassId} {q : Nat → Nat} {w d : Nat} {xi : Nat → Int} {xa : Nat → Nat → Int} {z : Int} {k : Nat} : va_up (cX cI cJ cZ cR q w d xi xa) (22) (.inl (cI, 18, .inl (fun i => iI (va_up (xa (12)) k z i)))) = cX cI cJ cZ cR q w d xi (va_up xa (12) (va_up (xa (12)) k z)) := by
  funext i
  match i with
  | 0 => rfl
  | 1 => rfl
  | 2 => rfl
  | 3 => rfl
  | 4 => rfl
  | 5 => rfl
  | 6 => rfl
  | 7 => rfl
  | 8 => rfl
  | 9 => rfl
  | 10 => rfl
  | 11 => rfl
  | 12 => rfl
  | 13 => rfl
  | 14 => rfl
  | 15 => rfl
  | 16 => rfl
  | 17 => rfl
  | 18 => rfl
  | 19 => rfl
  | 20 => rfl
  | 21 => rfl
  | 22 => rfl
  | 23 => rfl
  | 24 => rfl
  | 25 => rfl
  | 26 => rfl
  | 27 => rfl
  | 28 => rfl
  | 29 => rfl
  | 30 => rfl
  | k + 31 => exact (up_n (by omega)).trans rfl
theorem lx_jcells {cI cJ cZ cR : ClassId} {q : Nat → Nat} {w d : Nat} {xi : Nat → Int} {xa : Nat → Nat → Int} {z : Int} {k : Nat} : va_up (cX cI cJ cZ cR q w d xi xa) (23) (.inl (cI, 18, .inl (fun i => iI (va_up (xa (13)) k z i)))) = cX cI cJ cZ cR q w d xi (va_up xa (13) (va_up (xa (13)) k z)) := by
  funext i
  match i with
  | 0 => rfl
  | 1 => rfl
  | 2 => rfl
  | 3 => rfl
  | 4 => rfl
  | 5 => rfl
  | 6 => rfl
  | 7 => rfl
  | 8 => rfl
  | 9 => rfl
  | 10 => rfl
  | 11 => rfl
  | 12 => rfl
  | 13 => rfl
  | 14 => rfl
  | 15 => rfl
  | 16 => rfl
  | 17 => rfl
  | 18 => rfl
  | 19 => rfl
  | 20 => rfl
  | 21 => rfl
  | 22 => rfl
  | 23 => rfl
  | 24 => rfl
  | 25 => rfl
  | 26 => rfl
  | 27 => rfl
  | 28 => rfl
  | 29 => rfl
  | 30 => rfl
  | k + 31 => exact (up_n (by omega)).trans rfl
theorem lx_turn {cI cJ cZ cR : ClassId} {q : Nat → Nat} {w d : Nat} {xi : Nat → Int} {xa : Nat → Nat → Int} {z : Int} {k : Nat} : va_up (cX cI cJ cZ cR q w d xi xa) (25) (.inl (cI, 8, .inl (fun i => iI (va_up (xa (14)) k z i)))) = cX cI cJ cZ cR q w d xi (va_up xa (14) (va_up (xa (14)) k z)) := by
  funext i
  match i with
  | 0 => rfl
  | 1 => rfl
  | 2 => rfl
  | 3 => rfl
  | 4 => rfl
  | 5 => rfl
  | 6 => rfl
  | 7 => rfl
  | 8 => rfl
  | 9 => rfl
  | 10 => rfl
  | 11 => rfl
  | 12 => rfl
  | 13 => rfl
  | 14 => rfl
  | 15 => rfl
  | 16 => rfl
  | 17 => rfl
  | 18 => rfl
  | 19 => rfl
  | 20 => rfl
  | 21 => rfl
  | 22 => rfl
  | 23 => rfl
  | 24 => rfl
  | 25 => rfl
  | 26 => rfl
  | 27 => rfl
  | 28 => rfl
  | 29 => rfl
  | 30 => rfl
  | k + 31 => exact (up_n (by omega)).trans rfl
theorem lx_rcell {cI cJ cZ cR : ClassId} {q : Nat → Nat} {w d : Nat} {xi : Nat → Int} {xa : Nat → Nat → Int} {z : Int} {k : Nat} : va_up (cX cI cJ cZ cR q w d xi xa) (26) (.inl (cI, 8, .inl (fun i => iI (va_up (xa (15)) k z i)))) = cX cI cJ cZ cR q w d xi (va_up xa (15) (va_up (xa (15)) k z)) := by
  funext i
  match i with
  | 0 => rfl
  | 1 => rfl
  | 2 => rfl
  | 3 => rfl
  | 4 => rfl
  | 5 => rfl
  | 6 => rfl
  | 7 => rfl
  | 8 => rfl
  | 9 => rfl
  | 10 => rfl
  | 11 => rfl
  | 12 => rfl
  | 13 => rfl
  | 14 => rfl
  | 15 => rfl
  | 16 => rfl
  | 17 => rfl
  | 18 => rfl
  | 19 => rfl
  | 20 => rfl
  | 21 => rfl
  | 22 => rfl
  | 23 => rfl
  | 24 => rfl
  | 25 => rfl
  | 26 => rfl
  | 27 => rfl
  | 28 => rfl
  | 29 => rfl
  | 30 => rfl
  | k + 31 => exact (up_n (by omega)).trans rfl
theorem lx_ways {cI cJ cZ cR : ClassId} {q : Nat → Nat} {w d : Nat} {xi : Nat → Int} {xa : Nat → Nat → Int} {z : Int} {k : Nat} : va_up (cX cI cJ cZ cR q w d xi xa) (30) (.inl (cI, 512, .inl (fun i => iI (va_up (xa (16)) k z i)))) = cX cI cJ cZ cR q w d xi (va_up xa (16) (va_up (xa (16)) k z)) := by
  funext i
  match i with
  | 0 => rfl
  | 1 => rfl
  | 2 => rfl
  | 3 => rfl
  | 4 => rfl
  | 5 => rfl
  | 6 => rfl
  | 7 => rfl
  | 8 => rfl
  | 9 => rfl
  | 10 => rfl
  | 11 => rfl
  | 12 => rfl
  | 13 => rfl
  | 14 => rfl
  | 15 => rfl
  | 16 => rfl
  | 17 => rfl
  | 18 => rfl
  | 19 => rfl
  | 20 => rfl
  | 21 => rfl
  | 22 => rfl
  | 23 => rfl
  | 24 => rfl
  | 25 => rfl
  | 26 => rfl
  | 27 => rfl
  | 28 => rfl
  | 29 => rfl
  | 30 => rfl
  | k + 31 => exact (up_n (by omega)).trans rfl
theorem lx_best {cI cJ cZ cR : ClassId} {q : Nat → Nat} {w d : Nat} {xi : Nat → Int} {xa : Nat → Nat → Int} {z : Int} {k : Nat} : va_up (cX cI cJ cZ cR q w d xi xa) (28) (.inl (cJ, 832, .inr (.inl (fun i => lI (va_up (xa 17) k z i))))) = cX cI cJ cZ cR q w d xi (va_up xa 17 (va_up (xa 17) k z)) := by
  funext i
  match i with
  | 0 => rfl
  | 1 => rfl
  | 2 => rfl
  | 3 => rfl
  | 4 => rfl
  | 5 => rfl
  | 6 => rfl
  | 7 => rfl
  | 8 => rfl
  | 9 => rfl
  | 10 => rfl
  | 11 => rfl
  | 12 => rfl
  | 13 => rfl
  | 14 => rfl
  | 15 => rfl
  | 16 => rfl
  | 17 => rfl
  | 18 => rfl
  | 19 => rfl
  | 20 => rfl
  | 21 => rfl
  | 22 => rfl
  | 23 => rfl
  | 24 => rfl
  | 25 => rfl
  | 26 => rfl
  | 27 => rfl
  | 28 => rfl
  | 29 => rfl
  | 30 => rfl
  | k + 31 => exact (up_n (by omega)).trans rfl
theorem lx_stage {cI cJ cZ cR : ClassId} {q : Nat → Nat} {w d : Nat} {xi : Nat → Int} {xa : Nat → Nat → Int} {v : Int} : va_up (cX cI cJ cZ cR q w d xi xa) (20) (.inr (5, [.int (iI (xi 14))].set 0 (.int (iI v)))) = cX cI cJ cZ cR q w d (va_up xi 14 v) xa := by
  funext i
  match i with
  | 0 => rfl
  | 1 => rfl
  | 2 => rfl
  | 3 => rfl
  | 4 => rfl
  | 5 => rfl
  | 6 => rfl
  | 7 => rfl
  | 8 => rfl
  | 9 => rfl
  | 10 => rfl
  | 11 => rfl
  | 12 => rfl
  | 13 => rfl
  | 14 => rfl
  | 15 => rfl
  | 16 => rfl
  | 17 => rfl
  | 18 => rfl
  | 19 => rfl
  | 20 => rfl
  | 21 => rfl
  | 22 => rfl
  | 23 => rfl
  | 24 => rfl
  | 25 => rfl
  | 26 => rfl
  | 27 => rfl
  | 28 => rfl
  | 29 => rfl
  | 30 => rfl
  | k + 31 => exact (up_n (by omega)).trans rfl
theorem lx_turns {cI cJ cZ cR : ClassId} {q : Nat → Nat} {w d : Nat} {xi : Nat → Int} {xa : Nat → Nat → Int} {v : Int} : va_up (cX cI cJ cZ cR q w d xi xa) (21) (.inr (0, [.ref (q 22), .ref (q 23), .int (iI (xi 15)), .int (iI (xi 16)), .int (iI (xi 17))].set 2 (.int (iI v)))) = cX cI cJ cZ cR q w d (va_up xi 15 v) xa := by
  funext i
  match i with
  | 0 => rfl
  | 1 => rfl
  | 2 => rfl
  | 3 => rfl
  | 4 => rfl
  | 5 => rfl
  | 6 => rfl
  | 7 => rfl
  | 8 => rfl
  | 9 => rfl
  | 10 => rfl
  | 11 => rfl
  | 12 => rfl
  | 13 => rfl
  | 14 => rfl
  | 15 => rfl
  | 16 => rfl
  | 17 => rfl
  | 18 => rfl
  | 19 => rfl
  | 20 => rfl
  | 21 => rfl
  | 22 => rfl
  | 23 => rfl
  | 24 => rfl
  | 25 => rfl
  | 26 => rfl
  | 27 => rfl
  | 28 => rfl
  | 29 => rfl
  | 30 => rfl
  | k + 31 => exact (up_n (by omega)).trans rfl
theorem lx_wrong {cI cJ cZ cR : ClassId} {q : Nat → Nat} {w d : Nat} {xi : Nat → Int} {xa : Nat → Nat → Int} {v : Int} : va_up (cX cI cJ cZ cR q w d xi xa) (21) (.inr (0, [.ref (q 22), .ref (q 23), .int (iI (xi 15)), .int (iI (xi 16)), .int (iI (xi 17))].set 3 (.int (iI v)))) = cX cI cJ cZ cR q w d (va_up xi 16 v) xa := by
  funext i
  match i with
  | 0 => rfl
  | 1 => rfl
  | 2 => rfl
  | 3 => rfl
  | 4 => rfl
  | 5 => rfl
  | 6 => rfl
  | 7 => rfl
  | 8 => rfl
  | 9 => rfl
  | 10 => rfl
  | 11 => rfl
  | 12 => rfl
  | 13 => rfl
  | 14 => rfl
  | 15 => rfl
  | 16 => rfl
  | 17 => rfl
  | 18 => rfl
  | 19 => rfl
  | 20 => rfl
  | 21 => rfl
  | 22 => rfl
  | 23 => rfl
  | 24 => rfl
  | 25 => rfl
  | 26 => rfl
  | 27 => rfl
  | 28 => rfl
  | 29 => rfl
  | 30 => rfl
  | k + 31 => exact (up_n (by omega)).trans rfl
theorem lx_spot {cI cJ cZ cR : ClassId} {q : Nat → Nat} {w d : Nat} {xi : Nat → Int} {xa : Nat → Nat → Int} {v : Int} : va_up (cX cI cJ cZ cR q w d xi xa) (21) (.inr (0, [.ref (q 22), .ref (q 23), .int (iI (xi 15)), .int (iI (xi 16)), .int (iI (xi 17))].set 4 (.int (iI v)))) = cX cI cJ cZ cR q w d (va_up xi 17 v) xa := by
  funext i
  match i with
  | 0 => rfl
  | 1 => rfl
  | 2 => rfl
  | 3 => rfl
  | 4 => rfl
  | 5 => rfl
  | 6 => rfl
  | 7 => rfl
  | 8 => rfl
  | 9 => rfl
  | 10 => rfl
  | 11 => rfl
  | 12 => rfl
  | 13 => rfl
  | 14 => rfl
  | 15 => rfl
  | 16 => rfl
  | 17 => rfl
  | 18 => rfl
  | 19 => rfl
  | 20 => rfl
  | 21 => rfl
  | 22 => rfl
  | 23 => rfl
  | 24 => rfl
  | 25 => rfl
  | 26 => rfl
  | 27 => rfl
  | 28 => rfl
  | 29 => rfl
  | 30 => rfl
  | k + 31 => exact (up_n (by omega)).trans rfl
theorem lx_rcount {cI cJ cZ cR : ClassId} {q : Nat → Nat} {w d : Nat} {xi : Nat → Int} {xa : Nat → Nat → Int} {v : Int} : va_up (cX cI cJ cZ cR q w d xi xa) (24) (.inr (1, [.ref (q 25), .ref (q 26), .int (iI (xi 18))].set 2 (.int (iI v)))) = cX cI cJ cZ cR q w d (va_up xi 18 v) xa := by
  funext i
  match i with
  | 0 => rfl
  | 1 => rfl
  | 2 => rfl
  | 3 => rfl
  | 4 => rfl
  | 5 => rfl
  | 6 => rfl
  | 7 => rfl
  | 8 => rfl
  | 9 => rfl
  | 10 => rfl
  | 11 => rfl
  | 12 => rfl
  | 13 => rfl
  | 14 => rfl
  | 15 => rfl
  | 16 => rfl
  | 17 => rfl
  | 18 => rfl
  | 19 => rfl
  | 20 => rfl
  | 21 => rfl
  | 22 => rfl
  | 23 => rfl
  | 24 => rfl
  | 25 => rfl
  | 26 => rfl
  | 27 => rfl
  | 28 => rfl
  | 29 => rfl
  | 30 => rfl
  | k + 31 => exact (up_n (by omega)).trans rfl
theorem lx_stands {cI cJ cZ cR : ClassId} {q : Nat → Nat} {w d : Nat} {xi : Nat → Int} {xa : Nat → Nat → Int} {v : Int} : va_up (cX cI cJ cZ cR q w d xi xa) (27) (.inr (4, [.ref (q 28), .int (iI (xi 19))].set 1 (.int (iI v)))) = cX cI cJ cZ cR q w d (va_up xi 19 v) xa := by
  funext i
  match i with
  | 0 => rfl
  | 1 => rfl
  | 2 => rfl
  | 3 => rfl
  | 4 => rfl
  | 5 => rfl
  | 6 => rfl
  | 7 => rfl
  | 8 => rfl
  | 9 => rfl
  | 10 => rfl
  | 11 => rfl
  | 12 => rfl
  | 13 => rfl
  | 14 => rfl
  | 15 => rfl
  | 16 => rfl
  | 17 => rfl
  | 18 => rfl
  | 19 => rfl
  | 20 => rfl
  | 21 => rfl
  | 22 => rfl
  | 23 => rfl
  | 24 => rfl
  | 25 => rfl
  | 26 => rfl
  | 27 => rfl
  | 28 => rfl
  | 29 => rfl
  | 30 => rfl
  | k + 31 => exact (up_n (by omega)).trans rfl
theorem lw_num {cI cJ cZ cR : ClassId} {q : Nat → Nat} {w d : Nat} {xi : Nat → Int} {xa : Nat → Nat → Int} {g : Nat → Int} {j : Nat} (h : j < 4) : va_up (cX cI cJ cZ cR q w d xi xa) (6 + j) (xAr cI 60 g) = cX cI cJ cZ cR q w d xi (va_up xa (j) g) := by
  match j, h with
  | 0, _ =>
    funext i
    match i with
    | 0 => rfl
    | 1 => rfl
    | 2 => rfl
    | 3 => rfl
    | 4 => rfl
    | 5 => rfl
    | 6 => rfl
    | 7 => rfl
    | 8 => rfl
    | 9 => rfl
    | 10 => rfl
    | 11 => rfl
    | 12 => rfl
    | 13 => rfl
    | 14 => rfl
    | 15 => rfl
    | 16 => rfl
    | 17 => rfl
    | 18 => rfl
    | 19 => rfl
    | 20 => rfl
    | 21 => rfl
    | 22 => rfl
    | 23 => rfl
    | 24 => rfl
    | 25 => rfl
    | 26 => rfl
    | 27 => rfl
    | 28 => rfl
    | 29 => rfl
    | 30 => rfl
    | k + 31 => exact (up_n (by omega)).trans rfl
  | 1, _ =>
    funext i
    match i with
    | 0 => rfl
    | 1 => rfl
    | 2 => rfl
    | 3 => rfl
    | 4 => rfl
    | 5 => rfl
    | 6 => rfl
    | 7 => rfl
    | 8 => rfl
    | 9 => rfl
    | 10 => rfl
    | 11 => rfl
    | 12 => rfl
    | 13 => rfl
    | 14 => rfl
    | 15 => rfl
    | 16 => rfl
    | 17 => rfl
    | 18 => rfl
    | 19 => rfl
    | 20 => rfl
    | 21 => rfl
    | 22 => rfl
    | 23 => rfl
    | 24 => rfl
    | 25 => rfl
    | 26 => rfl
    | 27 => rfl
    | 28 => rfl
    | 29 => rfl
    | 30 => rfl
    | k + 31 => exact (up_n (by omega)).trans rfl
  | 2, _ =>
    funext i
    match i with
    | 0 => rfl
    | 1 => rfl
    | 2 => rfl
    | 3 => rfl
    | 4 => rfl
    | 5 => rfl
    | 6 => rfl
    | 7 => rfl
    | 8 => rfl
    | 9 => rfl
    | 10 => rfl
    | 11 => rfl
    | 12 => rfl
    | 13 => rfl
    | 14 => rfl
    | 15 => rfl
    | 16 => rfl
    | 17 => rfl
    | 18 => rfl
    | 19 => rfl
    | 20 => rfl
    | 21 => rfl
    | 22 => rfl
    | 23 => rfl
    | 24 => rfl
    | 25 => rfl
    | 26 => rfl
    | 27 => rfl
    | 28 => rfl
    | 29 => rfl
    | 30 => rfl
    | k + 31 => exact (up_n (by omega)).trans rfl
  | 3, _ =>
    funext i
    match i with
    | 0 => rfl
    | 1 => rfl
    | 2 => rfl
    | 3 => rfl
    | 4 => rfl
    | 5 => rfl
    | 6 => rfl
    | 7 => rfl
    | 8 => rfl
    | 9 => rfl
    | 10 => rfl
    | 11 => rfl
    | 12 => rfl
    | 13 => rfl
    | 14 => rfl
    | 15 => rfl
    | 16 => rfl
    | 17 => rfl
    | 18 => rfl
    | 19 => rfl
    | 20 => rfl
    | 21 => rfl
    | 22 => rfl
    | 23 => rfl
    | 24 => rfl
    | 25 => rfl
    | 26 => rfl
    | 27 => rfl
    | 28 => rfl
    | 29 => rfl
    | 30 => rfl
    | k + 31 => exact (up_n (by omega)).trans rfl
theorem lw_ways {cI cJ cZ cR : ClassId} {q : Nat → Nat} {w d : Nat} {xi : Nat → Int} {xa : Nat → Nat → Int} {g : Nat → Int} : va_up (cX cI cJ cZ cR q w d xi xa) (30) (xAr cI 512 g) = cX cI cJ cZ cR q w d xi (va_up xa (16) g) := by
  funext i
  match i with
  | 0 => rfl
  | 1 => rfl
  | 2 => rfl
  | 3 => rfl
  | 4 => rfl
  | 5 => rfl
  | 6 => rfl
  | 7 => rfl
  | 8 => rfl
  | 9 => rfl
  | 10 => rfl
  | 11 => rfl
  | 12 => rfl
  | 13 => rfl
  | 14 => rfl
  | 15 => rfl
  | 16 => rfl
  | 17 => rfl
  | 18 => rfl
  | 19 => rfl
  | 20 => rfl
  | 21 => rfl
  | 22 => rfl
  | 23 => rfl
  | 24 => rfl
  | 25 => rfl
  | 26 => rfl
  | 27 => rfl
  | 28 => rfl
  | 29 => rfl
  | 30 => rfl
  | k + 31 => exact (up_n (by omega)).trans rfl
theorem lw_best {cI cJ cZ cR : ClassId} {q : Nat → Nat} {w d : Nat} {xi : Nat → Int} {xa : Nat → Nat → Int} {g : Nat → Int} : va_up (cX cI cJ cZ cR q w d xi xa) (28) (.inl (cJ, 832, .inr (.inl (fun i => lI (g i))))) = cX cI cJ cZ cR q w d xi (va_up xa 17 g) := by
  funext i
  match i with
  | 0 => rfl
  | 1 => rfl
  | 2 => rfl
  | 3 => rfl
  | 4 => rfl
  | 5 => rfl
  | 6 => rfl
  | 7 => rfl
  | 8 => rfl
  | 9 => rfl
  | 10 => rfl
  | 11 => rfl
  | 12 => rfl
  | 13 => rfl
  | 14 => rfl
  | 15 => rfl
  | 16 => rfl
  | 17 => rfl
  | 18 => rfl
  | 19 => rfl
  | 20 => rfl
  | 21 => rfl
  | 22 => rfl
  | 23 => rfl
  | 24 => rfl
  | 25 => rfl
  | 26 => rfl
  | 27 => rfl
  | 28 => rfl
  | 29 => rfl
  | 30 => rfl
  | k + 31 => exact (up_n (by omega)).trans rfl
def cM (cI cJ cZ : ClassId) (q : Nat → Nat) (mi : Nat → Int) (ma : Nat → Nat → Int) : Nat → va_E := fun i => match i with
  | 0 => .inr (8, [.int (iI (mi 0)), .int (iI (mi 1)), .int (iI (mi 2)), .ref (q 1), .ref (q 2), .ref (q 3), .ref (q 4), .int (iI (mi 7)), .int (iI (mi 8)), .int (iI (mi 9)), .ref (q 5), .ref (q 6), .ref (q 7), .ref (q 8), .int (iI (mi 14)), .int (iI (mi 15)), .int (iI (mi 16)), .long (lI (mi 17)), .int (iI (mi 18)), .ref (q 9), .ref (q 10), .ref (q 11), .int (iI (mi 22)), .ref (q 12), .ref (q 13), .ref (q 14), .ref (q 15), .ref (q 16), .ref (q 17), .int (iI (mi 29))])
  | 1 => xAr cI 16 (ma 1)
  | 2 => xAr cI 16 (ma 2)
  | 3 => xAr cI 16 (ma 3)
  | 4 => xAr cI 16 (ma 4)
  | 5 => xAr cI 16 (ma 5)
  | 6 => xAr cI 16 (ma 6)
  | 7 => xAr cI 16 (ma 7)
  | 8 => xAr cI 16 (ma 8)
  | 9 => .inl (cJ, 832, .inr (.inl (fun k => lI (ma 9 k))))
  | 10 => xAr cZ 64 (ma 10)
  | 11 => xAr cZ 64 (ma 11)
  | 12 => xAr cI 8 (ma 12)
  | 13 => xAr cI 8 (ma 13)
  | 14 => xAr cI 4 (ma 14)
  | 15 => xAr cI 4 (ma 15)
  | 16 => xAr cI 240 (ma 16)
  | 17 => xAr cI 60 (ma 17)
  | _ => xAr cI 0 (fun _ => 0)
theorem lm_0 {cI cJ cZ : ClassId} {q : Nat → Nat} {mi : Nat → Int} {ma : Nat → Nat → Int} {v : Int} : va_up (cM cI cJ cZ q mi ma) (0) (.inr (8, [.int (iI (mi 0)), .int (iI (mi 1)), .int (iI (mi 2)), .ref (q 1), .ref (q 2), .ref (q 3), .ref (q 4), .int (iI (mi 7)), .int (iI (mi 8)), .int (iI (mi 9)), .ref (q 5), .ref (q 6), .ref (q 7), .ref (q 8), .int (iI (mi 14)), .int (iI (mi 15)), .int (iI (mi 16)), .long (lI (mi 17)), .int (iI (mi 18)), .ref (q 9), .ref (q 10), .ref (q 11), .int (iI (mi 22)), .ref (q 12), .ref (q 13), .ref (q 14), .ref (q 15), .ref (q 16), .ref (q 17), .int (iI (mi 29))].set 0 (.int (iI v)))) = cM cI cJ cZ q (va_up mi 0 v) ma := by
  funext i
  match i with
  | 0 => rfl
  | 1 => rfl
  | 2 => rfl
  | 3 => rfl
  | 4 => rfl
  | 5 => rfl
  | 6 => rfl
  | 7 => rfl
  | 8 => rfl
  | 9 => rfl
  | 10 => rfl
  | 11 => rfl
  | 12 => rfl
  | 13 => rfl
  | 14 => rfl
  | 15 => rfl
  | 16 => rfl
  | 17 => rfl
  | k + 18 => exact (up_n (by omega)).trans rfl
theorem lm_1 {cI cJ cZ : ClassId} {q : Nat → Nat} {mi : Nat → Int} {ma : Nat → Nat → Int} {v : Int} : va_up (cM cI cJ cZ q mi ma) (0) (.inr (8, [.int (iI (mi 0)), .int (iI (mi 1)), .int (iI (mi 2)), .ref (q 1), .ref (q 2), .ref (q 3), .ref (q 4), .int (iI (mi 7)), .int (iI (mi 8)), .int (iI (mi 9)), .ref (q 5), .ref (q 6), .ref (q 7), .ref (q 8), .int (iI (mi 14)), .int (iI (mi 15)), .int (iI (mi 16)), .long (lI (mi 17)), .int (iI (mi 18)), .ref (q 9), .ref (q 10), .ref (q 11), .int (iI (mi 22)), .ref (q 12), .ref (q 13), .ref (q 14), .ref (q 15), .ref (q 16), .ref (q 17), .int (iI (mi 29))].set 1 (.int (iI v)))) = cM cI cJ cZ q (va_up mi 1 v) ma := by
  funext i
  match i with
  | 0 => rfl
  | 1 => rfl
  | 2 => rfl
  | 3 => rfl
  | 4 => rfl
  | 5 => rfl
  | 6 => rfl
  | 7 => rfl
  | 8 => rfl
  | 9 => rfl
  | 10 => rfl
  | 11 => rfl
  | 12 => rfl
  | 13 => rfl
  | 14 => rfl
  | 15 => rfl
  | 16 => rfl
  | 17 => rfl
  | k + 18 => exact (up_n (by omega)).trans rfl
theorem lm_2 {cI cJ cZ : ClassId} {q : Nat → Nat} {mi : Nat → Int} {ma : Nat → Nat → Int} {v : Int} : va_up (cM cI cJ cZ q mi ma) (0) (.inr (8, [.int (iI (mi 0)), .int (iI (mi 1)), .int (iI (mi 2)), .ref (q 1), .ref (q 2), .ref (q 3), .ref (q 4), .int (iI (mi 7)), .int (iI (mi 8)), .int (iI (mi 9)), .ref (q 5), .ref (q 6), .ref (q 7), .ref (q 8), .int (iI (mi 14)), .int (iI (mi 15)), .int (iI (mi 16)), .long (lI (mi 17)), .int (iI (mi 18)), .ref (q 9), .ref (q 10), .ref (q 11), .int (iI (mi 22)), .ref (q 12), .ref (q 13), .ref (q 14), .ref (q 15), .ref (q 16), .ref (q 17), .int (iI (mi 29))].set 2 (.int (iI v)))) = cM cI cJ cZ q (va_up mi 2 v) ma := by
  funext i
  match i with
  | 0 => rfl
  | 1 => rfl
  | 2 => rfl
  | 3 => rfl
  | 4 => rfl
  | 5 => rfl
  | 6 => rfl
  | 7 => rfl
  | 8 => rfl
  | 9 => rfl
  | 10 => rfl
  | 11 => rfl
  | 12 => rfl
  | 13 => rfl
  | 14 => rfl
  | 15 => rfl
  | 16 => rfl
  | 17 => rfl
  | k + 18 => exact (up_n (by omega)).trans rfl
theorem lm_7 {cI cJ cZ : ClassId} {q : Nat → Nat} {mi : Nat → Int} {ma : Nat → Nat → Int} {v : Int} : va_up (cM cI cJ cZ q mi ma) (0) (.inr (8, [.int (iI (mi 0)), .int (iI (mi 1)), .int (iI (mi 2)), .ref (q 1), .ref (q 2), .ref (q 3), .ref (q 4), .int (iI (mi 7)), .int (iI (mi 8)), .int (iI (mi 9)), .ref (q 5), .ref (q 6), .ref (q 7), .ref (q 8), .int (iI (mi 14)), .int (iI (mi 15)), .int (iI (mi 16)), .long (lI (mi 17)), .int (iI (mi 18)), .ref (q 9), .ref (q 10), .ref (q 11), .int (iI (mi 22)), .ref (q 12), .ref (q 13), .ref (q 14), .ref (q 15), .ref (q 16), .ref (q 17), .int (iI (mi 29))].set 7 (.int (iI v)))) = cM cI cJ cZ q (va_up mi 7 v) ma := by
  funext i
  match i with
  | 0 => rfl
  | 1 => rfl
  | 2 => rfl
  | 3 => rfl
  | 4 => rfl
  | 5 => rfl
  | 6 => rfl
  | 7 => rfl
  | 8 => rfl
  | 9 => rfl
  | 10 => rfl
  | 11 => rfl
  | 12 => rfl
  | 13 => rfl
  | 14 => rfl
  | 15 => rfl
  | 16 => rfl
  | 17 => rfl
  | k + 18 => exact (up_n (by omega)).trans rfl
theorem lm_8 {cI cJ cZ : ClassId} {q : Nat → Nat} {mi : Nat → Int} {ma : Nat → Nat → Int} {v : Int} : va_up (cM cI cJ cZ q mi ma) (0) (.inr (8, [.int (iI (mi 0)), .int (iI (mi 1)), .int (iI (mi 2)), .ref (q 1), .ref (q 2), .ref (q 3), .ref (q 4), .int (iI (mi 7)), .int (iI (mi 8)), .int (iI (mi 9)), .ref (q 5), .ref (q 6), .ref (q 7), .ref (q 8), .int (iI (mi 14)), .int (iI (mi 15)), .int (iI (mi 16)), .long (lI (mi 17)), .int (iI (mi 18)), .ref (q 9), .ref (q 10), .ref (q 11), .int (iI (mi 22)), .ref (q 12), .ref (q 13), .ref (q 14), .ref (q 15), .ref (q 16), .ref (q 17), .int (iI (mi 29))].set 8 (.int (iI v)))) = cM cI cJ cZ q (va_up mi 8 v) ma := by
  funext i
  match i with
  | 0 => rfl
  | 1 => rfl
  | 2 => rfl
  | 3 => rfl
  | 4 => rfl
  | 5 => rfl
  | 6 => rfl
  | 7 => rfl
  | 8 => rfl
  | 9 => rfl
  | 10 => rfl
  | 11 => rfl
  | 12 => rfl
  | 13 => rfl
  | 14 => rfl
  | 15 => rfl
  | 16 => rfl
  | 17 => rfl
  | k + 18 => exact (up_n (by omega)).trans rfl
theorem lm_9 {cI cJ cZ : ClassId} {q : Nat → Nat} {mi : Nat → Int} {ma : Nat → Nat → Int} {v : Int} : va_up (cM cI cJ cZ q mi ma) (0) (.inr (8, [.int (iI (mi 0)), .int (iI (mi 1)), .int (iI (mi 2)), .ref (q 1), .ref (q 2), .ref (q 3), .ref (q 4), .int (iI (mi 7)), .int (iI (mi 8)), .int (iI (mi 9)), .ref (q 5), .ref (q 6), .ref (q 7), .ref (q 8), .int (iI (mi 14)), .int (iI (mi 15)), .int (iI (mi 16)), .long (lI (mi 17)), .int (iI (mi 18)), .ref (q 9), .ref (q 10), .ref (q 11), .int (iI (mi 22)), .ref (q 12), .ref (q 13), .ref (q 14), .ref (q 15), .ref (q 16), .ref (q 17), .int (iI (mi 29))].set 9 (.int (iI v)))) = cM cI cJ cZ q (va_up mi 9 v) ma := by
  funext i
  match i with
  | 0 => rfl
  | 1 => rfl
  | 2 => rfl
  | 3 => rfl
  | 4 => rfl
  | 5 => rfl
  | 6 => rfl
  | 7 => rfl
  | 8 => rfl
  | 9 => rfl
  | 10 => rfl
  | 11 => rfl
  | 12 => rfl
  | 13 => rfl
  | 14 => rfl
  | 15 => rfl
  | 16 => rfl
  | 17 => rfl
  | k + 18 => exact (up_n (by omega)).trans rfl
theorem lm_14 {cI cJ cZ : ClassId} {q : Nat → Nat} {mi : Nat → Int} {ma : Nat → Nat → Int} {v : Int} : va_up (cM cI cJ cZ q mi ma) (0) (.inr (8, [.int (iI (mi 0)), .int (iI (mi 1)), .int (iI (mi 2)), .ref (q 1), .ref (q 2), .ref (q 3), .ref (q 4), .int (iI (mi 7)), .int (iI (mi 8)), .int (iI (mi 9)), .ref (q 5), .ref (q 6), .ref (q 7), .ref (q 8), .int (iI (mi 14)), .int (iI (mi 15)), .int (iI (mi 16)), .long (lI (mi 17)), .int (iI (mi 18)), .ref (q 9), .ref (q 10), .ref (q 11), .int (iI (mi 22)), .ref (q 12), .ref (q 13), .ref (q 14), .ref (q 15), .ref (q 16), .ref (q 17), .int (iI (mi 29))].set 14 (.int (iI v)))) = cM cI cJ cZ q (va_up mi 14 v) ma := by
  funext i
  match i with
  | 0 => rfl
  | 1 => rfl
  | 2 => rfl
  | 3 => rfl
  | 4 => rfl
  | 5 => rfl
  | 6 => rfl
  | 7 => rfl
  | 8 => rfl
  | 9 => rfl
  | 10 => rfl
  | 11 => rfl
  | 12 => rfl
  | 13 => rfl
  | 14 => rfl
  | 15 => rfl
  | 16 => rfl
  | 17 => rfl
  | k + 18 => exact (up_n (by omega)).trans rfl
theorem lm_15 {cI cJ cZ : ClassId} {q : Nat → Nat} {mi : Nat → Int} {ma : Nat → Nat → Int} {v : Int} : va_up (cM cI cJ cZ q mi ma) (0) (.inr (8, [.int (iI (mi 0)), .int (iI (mi 1)), .int (iI (mi 2)), .ref (q 1), .ref (q 2), .ref (q 3), .ref (q 4), .int (iI (mi 7)), .int (iI (mi 8)), .int (iI (mi 9)), .ref (q 5), .ref (q 6), .ref (q 7), .ref (q 8), .int (iI (mi 14)), .int (iI (mi 15)), .int (iI (mi 16)), .long (lI (mi 17)), .int (iI (mi 18)), .ref (q 9), .ref (q 10), .ref (q 11), .int (iI (mi 22)), .ref (q 12), .ref (q 13), .ref (q 14), .ref (q 15), .ref (q 16), .ref (q 17), .int (iI (mi 29))].set 15 (.int (iI v)))) = cM cI cJ cZ q (va_up mi 15 v) ma := by
  funext i
  match i with
  | 0 => rfl
  | 1 => rfl
  | 2 => rfl
  | 3 => rfl
  | 4 => rfl
  | 5 => rfl
  | 6 => rfl
  | 7 => rfl
  | 8 => rfl
  | 9 => rfl
  | 10 => rfl
  | 11 => rfl
  | 12 => rfl
  | 13 => rfl
  | 14 => rfl
  | 15 => rfl
  | 16 => rfl
  | 17 => rfl
  | k + 18 => exact (up_n (by omega)).trans rfl
theorem lm_16 {cI cJ cZ : ClassId} {q : Nat → Nat} {mi : Nat → Int} {ma : Nat → Nat → Int} {v : Int} : va_up (cM cI cJ cZ q mi ma) (0) (.inr (8, [.int (iI (mi 0)), .int (iI (mi 1)), .int (iI (mi 2)), .ref (q 1), .ref (q 2), .ref (q 3), .ref (q 4), .int (iI (mi 7)), .int (iI (mi 8)), .int (iI (mi 9)), .ref (q 5), .ref (q 6), .ref (q 7), .ref (q 8), .int (iI (mi 14)), .int (iI (mi 15)), .int (iI (mi 16)), .long (lI (mi 17)), .int (iI (mi 18)), .ref (q 9), .ref (q 10), .ref (q 11), .int (iI (mi 22)), .ref (q 12), .ref (q 13), .ref (q 14), .ref (q 15), .ref (q 16), .ref (q 17), .int (iI (mi 29))].set 16 (.int (iI v)))) = cM cI cJ cZ q (va_up mi 16 v) ma := by
  funext i
  match i with
  | 0 => rfl
  | 1 => rfl
  | 2 => rfl
  | 3 => rfl
  | 4 => rfl
  | 5 => rfl
  | 6 => rfl
  | 7 => rfl
  | 8 => rfl
  | 9 => rfl
  | 10 => rfl
  | 11 => rfl
  | 12 => rfl
  | 13 => rfl
  | 14 => rfl
  | 15 => rfl
  | 16 => rfl
  | 17 => rfl
  | k + 18 => exact (up_n (by omega)).trans rfl
theorem lm_17 {cI cJ cZ : ClassId} {q : Nat → Nat} {mi : Nat → Int} {ma : Nat → Nat → Int} {v : Int} : va_up (cM cI cJ cZ q mi ma) (0) (.inr (8, [.int (iI (mi 0)), .int (iI (mi 1)), .int (iI (mi 2)), .ref (q 1), .ref (q 2), .ref (q 3), .ref (q 4), .int (iI (mi 7)), .int (iI (mi 8)), .int (iI (mi 9)), .ref (q 5), .ref (q 6), .ref (q 7), .ref (q 8), .int (iI (mi 14)), .int (iI (mi 15)), .int (iI (mi 16)), .long (lI (mi 17)), .int (iI (mi 18)), .ref (q 9), .ref (q 10), .ref (q 11), .int (iI (mi 22)), .ref (q 12), .ref (q 13), .ref (q 14), .ref (q 15), .ref (q 16), .ref (q 17), .int (iI (mi 29))].set 17 (.long (lI v)))) = cM cI cJ cZ q (va_up mi 17 v) ma := by
  funext i
  match i with
  | 0 => rfl
  | 1 => rfl
  | 2 => rfl
  | 3 => rfl
  | 4 => rfl
  | 5 => rfl
  | 6 => rfl
  | 7 => rfl
  | 8 => rfl
  | 9 => rfl
  | 10 => rfl
  | 11 => rfl
  | 12 => rfl
  | 13 => rfl
  | 14 => rfl
  | 15 => rfl
  | 16 => rfl
  | 17 => rfl
  | k + 18 => exact (up_n (by omega)).trans rfl
theorem lm_18 {cI cJ cZ : ClassId} {q : Nat → Nat} {mi : Nat → Int} {ma : Nat → Nat → Int} {v : Int} : va_up (cM cI cJ cZ q mi ma) (0) (.inr (8, [.int (iI (mi 0)), .int (iI (mi 1)), .int (iI (mi 2)), .ref (q 1), .ref (q 2), .ref (q 3), .ref (q 4), .int (iI (mi 7)), .int (iI (mi 8)), .int (iI (mi 9)), .ref (q 5), .ref (q 6), .ref (q 7), .ref (q 8), .int (iI (mi 14)), .int (iI (mi 15)), .int (iI (mi 16)), .long (lI (mi 17)), .int (iI (mi 18)), .ref (q 9), .ref (q 10), .ref (q 11), .int (iI (mi 22)), .ref (q 12), .ref (q 13), .ref (q 14), .ref (q 15), .ref (q 16), .ref (q 17), .int (iI (mi 29))].set 18 (.int (iI v)))) = cM cI cJ cZ q (va_up mi 18 v) ma := by
  funext i
  match i with
  | 0 => rfl
  | 1 => rfl
  | 2 => rfl
  | 3 => rfl
  | 4 => rfl
  | 5 => rfl
  | 6 => rfl
  | 7 => rfl
  | 8 => rfl
  | 9 => rfl
  | 10 => rfl
  | 11 => rfl
  | 12 => rfl
  | 13 => rfl
  | 14 => rfl
  | 15 => rfl
  | 16 => rfl
  | 17 => rfl
  | k + 18 => exact (up_n (by omega)).trans rfl
theorem lm_22 {cI cJ cZ : ClassId} {q : Nat → Nat} {mi : Nat → Int} {ma : Nat → Nat → Int} {v : Int} : va_up (cM cI cJ cZ q mi ma) (0) (.inr (8, [.int (iI (mi 0)), .int (iI (mi 1)), .int (iI (mi 2)), .ref (q 1), .ref (q 2), .ref (q 3), .ref (q 4), .int (iI (mi 7)), .int (iI (mi 8)), .int (iI (mi 9)), .ref (q 5), .ref (q 6), .ref (q 7), .ref (q 8), .int (iI (mi 14)), .int (iI (mi 15)), .int (iI (mi 16)), .long (lI (mi 17)), .int (iI (mi 18)), .ref (q 9), .ref (q 10), .ref (q 11), .int (iI (mi 22)), .ref (q 12), .ref (q 13), .ref (q 14), .ref (q 15), .ref (q 16), .ref (q 17), .int (iI (mi 29))].set 22 (.int (iI v)))) = cM cI cJ cZ q (va_up mi 22 v) ma := by
  funext i
  match i with
  | 0 => rfl
  | 1 => rfl
  | 2 => rfl
  | 3 => rfl
  | 4 => rfl
  | 5 => rfl
  | 6 => rfl
  | 7 => rfl
  | 8 => rfl
  | 9 => rfl
  | 10 => rfl
  | 11 => rfl
  | 12 => rfl
  | 13 => rfl
  | 14 => rfl
  | 15 => rfl
  | 16 => rfl
  | 17 => rfl
  | k + 18 => exact (up_n (by omega)).trans rfl
theorem lm_29 {cI cJ cZ : ClassId} {q : Nat → Nat} {mi : Nat → Int} {ma : Nat → Nat → Int} {v : Int} : va_up (cM cI cJ cZ q mi ma) (0) (.inr (8, [.int (iI (mi 0)), .int (iI (mi 1)), .int (iI (mi 2)), .ref (q 1), .ref (q 2), .ref (q 3), .ref (q 4), .int (iI (mi 7)), .int (iI (mi 8)), .int (iI (mi 9)), .ref (q 5), .ref (q 6), .ref (q 7), .ref (q 8), .int (iI (mi 14)), .int (iI (mi 15)), .int (iI (mi 16)), .long (lI (mi 17)), .int (iI (mi 18)), .ref (q 9), .ref (q 10), .ref (q 11), .int (iI (mi 22)), .ref (q 12), .ref (q 13), .ref (q 14), .ref (q 15), .ref (q 16), .ref (q 17), .int (iI (mi 29))].set 29 (.int (iI v)))) = cM cI cJ cZ q (va_up mi 29 v) ma := by
  funext i
  match i with
  | 0 => rfl
  | 1 => rfl
  | 2 => rfl
  | 3 => rfl
  | 4 => rfl
  | 5 => rfl
  | 6 => rfl
  | 7 => rfl
  | 8 => rfl
  | 9 => rfl
  | 10 => rfl
  | 11 => rfl
  | 12 => rfl
  | 13 => rfl
  | 14 => rfl
  | 15 => rfl
  | 16 => rfl
  | 17 => rfl
  | k + 18 => exact (up_n (by omega)).trans rfl
theorem la_1 {cI cJ cZ : ClassId} {q : Nat → Nat} {mi : Nat → Int} {ma : Nat → Nat → Int} {z : Int} {k : Nat} : va_up (cM cI cJ cZ q mi ma) (1) (.inl (cI, 16, .inl (fun i => iI (va_up (ma 1) k z i)))) = cM cI cJ cZ q mi (va_up ma 1 (va_up (ma 1) k z)) := by
  funext i
  match i with
  | 0 => rfl
  | 1 => rfl
  | 2 => rfl
  | 3 => rfl
  | 4 => rfl
  | 5 => rfl
  | 6 => rfl
  | 7 => rfl
  | 8 => rfl
  | 9 => rfl
  | 10 => rfl
  | 11 => rfl
  | 12 => rfl
  | 13 => rfl
  | 14 => rfl
  | 15 => rfl
  | 16 => rfl
  | 17 => rfl
  | k + 18 => exact (up_n (by omega)).trans rfl
theorem la_2 {cI cJ cZ : ClassId} {q : Nat → Nat} {mi : Nat → Int} {ma : Nat → Nat → Int} {z : Int} {k : Nat} : va_up (cM cI cJ cZ q mi ma) (2) (.inl (cI, 16, .inl (fun i => iI (va_up (ma 2) k z i)))) = cM cI cJ cZ q mi (va_up ma 2 (va_up (ma 2) k z)) := by
  funext i
  match i with
  | 0 => rfl
  | 1 => rfl
  | 2 => rfl
  | 3 => rfl
  | 4 => rfl
  | 5 => rfl
  | 6 => rfl
  | 7 => rfl
  | 8 => rfl
  | 9 => rfl
  | 10 => rfl
  | 11 => rfl
  | 12 => rfl
  | 13 => rfl
  | 14 => rfl
  | 15 => rfl
  | 16 => rfl
  | 17 => rfl
  | k + 18 => exact (up_n (by omega)).trans rfl
theorem la_3 {cI cJ cZ : ClassId} {q : Nat → Nat} {mi : Nat → Int} {ma : Nat → Nat → Int} {z : Int} {k : Nat} : va_up (cM cI cJ cZ q mi ma) (3) (.inl (cI, 16, .inl (fun i => iI (va_up (ma 3) k z i)))) = cM cI cJ cZ q mi (va_up ma 3 (va_up (ma 3) k z)) := by
  funext i
  match i with
  | 0 => rfl
  | 1 => rfl
  | 2 => rfl
  | 3 => rfl
  | 4 => rfl
  | 5 => rfl
  | 6 => rfl
  | 7 => rfl
  | 8 => rfl
  | 9 => rfl
  | 10 => rfl
  | 11 => rfl
  | 12 => rfl
  | 13 => rfl
  | 14 => rfl
  | 15 => rfl
  | 16 => rfl
  | 17 => rfl
  | k + 18 => exact (up_n (by omega)).trans rfl
theorem la_4 {cI cJ cZ : ClassId} {q : Nat → Nat} {mi : Nat → Int} {ma : Nat → Nat → Int} {z : Int} {k : Nat} : va_up (cM cI cJ cZ q mi ma) (4) (.inl (cI, 16, .inl (fun i => iI (va_up (ma 4) k z i)))) = cM cI cJ cZ q mi (va_up ma 4 (va_up (ma 4) k z)) := by
  funext i
  match i with
  | 0 => rfl
  | 1 => rfl
  | 2 => rfl
  | 3 => rfl
  | 4 => rfl
  | 5 => rfl
  | 6 => rfl
  | 7 => rfl
  | 8 => rfl
  | 9 => rfl
  | 10 => rfl
  | 11 => rfl
  | 12 => rfl
  | 13 => rfl
  | 14 => rfl
  | 15 => rfl
  | 16 => rfl
  | 17 => rfl
  | k + 18 => exact (up_n (by omega)).trans rfl
theorem la_5 {cI cJ cZ : ClassId} {q : Nat → Nat} {mi : Nat → Int} {ma : Nat → Nat → Int} {z : Int} {k : Nat} : va_up (cM cI cJ cZ q mi ma) (5) (.inl (cI, 16, .inl (fun i => iI (va_up (ma 5) k z i)))) = cM cI cJ cZ q mi (va_up ma 5 (va_up (ma 5) k z)) := by
  funext i
  match i with
  | 0 => rfl
  | 1 => rfl
  | 2 => rfl
  | 3 => rfl
  | 4 => rfl
  | 5 => rfl
  | 6 => rfl
  | 7 => rfl
  | 8 => rfl
  | 9 => rfl
  | 10 => rfl
  | 11 => rfl
  | 12 => rfl
  | 13 => rfl
  | 14 => rfl
  | 15 => rfl
  | 16 => rfl
  | 17 => rfl
  | k + 18 => exact (up_n (by omega)).trans rfl
theorem la_6 {cI cJ cZ : ClassId} {q : Nat → Nat} {mi : Nat → Int} {ma : Nat → Nat → Int} {z : Int} {k : Nat} : va_up (cM cI cJ cZ q mi ma) (6) (.inl (cI, 16, .inl (fun i => iI (va_up (ma 6) k z i)))) = cM cI cJ cZ q mi (va_up ma 6 (va_up (ma 6) k z)) := by
  funext i
  match i with
  | 0 => rfl
  | 1 => rfl
  | 2 => rfl
  | 3 => rfl
  | 4 => rfl
  | 5 => rfl
  | 6 => rfl
  | 7 => rfl
  | 8 => rfl
  | 9 => rfl
  | 10 => rfl
  | 11 => rfl
  | 12 => rfl
  | 13 => rfl
  | 14 => rfl
  | 15 => rfl
  | 16 => rfl
  | 17 => rfl
  | k + 18 => exact (up_n (by omega)).trans rfl
theorem la_7 {cI cJ cZ : ClassId} {q : Nat → Nat} {mi : Nat → Int} {ma : Nat → Nat → Int} {z : Int} {k : Nat} : va_up (cM cI cJ cZ q mi ma) (7) (.inl (cI, 16, .inl (fun i => iI (va_up (ma 7) k z i)))) = cM cI cJ cZ q mi (va_up ma 7 (va_up (ma 7) k z)) := by
  funext i
  match i with
  | 0 => rfl
  | 1 => rfl
  | 2 => rfl
  | 3 => rfl
  | 4 => rfl
  | 5 => rfl
  | 6 => rfl
  | 7 => rfl
  | 8 => rfl
  | 9 => rfl
  | 10 => rfl
  | 11 => rfl
  | 12 => rfl
  | 13 => rfl
  | 14 => rfl
  | 15 => rfl
  | 16 => rfl
  | 17 => rfl
  | k + 18 => exact (up_n (by omega)).trans rfl
theorem la_8 {cI cJ cZ : ClassId} {q : Nat → Nat} {mi : Nat → Int} {ma : Nat → Nat → Int} {z : Int} {k : Nat} : va_up (cM cI cJ cZ q mi ma) (8) (.inl (cI, 16, .inl (fun i => iI (va_up (ma 8) k z i)))) = cM cI cJ cZ q mi (va_up ma 8 (va_up (ma 8) k z)) := by
  funext i
  match i with
  | 0 => rfl
  | 1 => rfl
  | 2 => rfl
  | 3 => rfl
  | 4 => rfl
  | 5 => rfl
  | 6 => rfl
  | 7 => rfl
  | 8 => rfl
  | 9 => rfl
  | 10 => rfl
  | 11 => rfl
  | 12 => rfl
  | 13 => rfl
  | 14 => rfl
  | 15 => rfl
  | 16 => rfl
  | 17 => rfl
  | k + 18 => exact (up_n (by omega)).trans rfl
theorem la_9 {cI cJ cZ : ClassId} {q : Nat → Nat} {mi : Nat → Int} {ma : Nat → Nat → Int} {z : Int} {k : Nat} : va_up (cM cI cJ cZ q mi ma) (9) (.inl (cJ, 832, .inr (.inl (fun i => lI (va_up (ma 9) k z i))))) = cM cI cJ cZ q mi (va_up ma 9 (va_up (ma 9) k z)) := by
  funext i
  match i with
  | 0 => rfl
  | 1 => rfl
  | 2 => rfl
  | 3 => rfl
  | 4 => rfl
  | 5 => rfl
  | 6 => rfl
  | 7 => rfl
  | 8 => rfl
  | 9 => rfl
  | 10 => rfl
  | 11 => rfl
  | 12 => rfl
  | 13 => rfl
  | 14 => rfl
  | 15 => rfl
  | 16 => rfl
  | 17 => rfl
  | k + 18 => exact (up_n (by omega)).trans rfl
theorem la_10 {cI cJ cZ : ClassId} {q : Nat → Nat} {mi : Nat → Int} {ma : Nat → Nat → Int} {z : Int} {k : Nat} : va_up (cM cI cJ cZ q mi ma) (10) (.inl (cZ, 64, .inl (fun i => iI (va_up (ma 10) k z i)))) = cM cI cJ cZ q mi (va_up ma 10 (va_up (ma 10) k z)) := by
  funext i
  match i with
  | 0 => rfl
  | 1 => rfl
  | 2 => rfl
  | 3 => rfl
  | 4 => rfl
  | 5 => rfl
  | 6 => rfl
  | 7 => rfl
  | 8 => rfl
  | 9 => rfl
  | 10 => rfl
  | 11 => rfl
  | 12 => rfl
  | 13 => rfl
  | 14 => rfl
  | 15 => rfl
  | 16 => rfl
  | 17 => rfl
  | k + 18 => exact (up_n (by omega)).trans rfl
theorem la_11 {cI cJ cZ : ClassId} {q : Nat → Nat} {mi : Nat → Int} {ma : Nat → Nat → Int} {z : Int} {k : Nat} : va_up (cM cI cJ cZ q mi ma) (11) (.inl (cZ, 64, .inl (fun i => iI (va_up (ma 11) k z i)))) = cM cI cJ cZ q mi (va_up ma 11 (va_up (ma 11) k z)) := by
  funext i
  match i with
  | 0 => rfl
  | 1 => rfl
  | 2 => rfl
  | 3 => rfl
  | 4 => rfl
  | 5 => rfl
  | 6 => rfl
  | 7 => rfl
  | 8 => rfl
  | 9 => rfl
  | 10 => rfl
  | 11 => rfl
  | 12 => rfl
  | 13 => rfl
  | 14 => rfl
  | 15 => rfl
  | 16 => rfl
  | 17 => rfl
  | k + 18 => exact (up_n (by omega)).trans rfl
theorem la_12 {cI cJ cZ : ClassId} {q : Nat → Nat} {mi : Nat → Int} {ma : Nat → Nat → Int} {z : Int} {k : Nat} : va_up (cM cI cJ cZ q mi ma) (12) (.inl (cI, 8, .inl (fun i => iI (va_up (ma 12) k z i)))) = cM cI cJ cZ q mi (va_up ma 12 (va_up (ma 12) k z)) := by
  funext i
  match i with
  | 0 => rfl
  | 1 => rfl
  | 2 => rfl
  | 3 => rfl
  | 4 => rfl
  | 5 => rfl
  | 6 => rfl
  | 7 => rfl
  | 8 => rfl
  | 9 => rfl
  | 10 => rfl
  | 11 => rfl
  | 12 => rfl
  | 13 => rfl
  | 14 => rfl
  | 15 => rfl
  | 16 => rfl
  | 17 => rfl
  | k + 18 => exact (up_n (by omega)).trans rfl
theorem la_13 {cI cJ cZ : ClassId} {q : Nat → Nat} {mi : Nat → Int} {ma : Nat → Nat → Int} {z : Int} {k : Nat} : va_up (cM cI cJ cZ q mi ma) (13) (.inl (cI, 8, .inl (fun i => iI (va_up (ma 13) k z i)))) = cM cI cJ cZ q mi (va_up ma 13 (va_up (ma 13) k z)) := by
  funext i
  match i with
  | 0 => rfl
  | 1 => rfl
  | 2 => rfl
  | 3 => rfl
  | 4 => rfl
  | 5 => rfl
  | 6 => rfl
  | 7 => rfl
  | 8 => rfl
  | 9 => rfl
  | 10 => rfl
  | 11 => rfl
  | 12 => rfl
  | 13 => rfl
  | 14 => rfl
  | 15 => rfl
  | 16 => rfl
  | 17 => rfl
  | k + 18 => exact (up_n (by omega)).trans rfl
theorem la_14 {cI cJ cZ : ClassId} {q : Nat → Nat} {mi : Nat → Int} {ma : Nat → Nat → Int} {z : Int} {k : Nat} : va_up (cM cI cJ cZ q mi ma) (14) (.inl (cI, 4, .inl (fun i => iI (va_up (ma 14) k z i)))) = cM cI cJ cZ q mi (va_up ma 14 (va_up (ma 14) k z)) := by
  funext i
  match i with
  | 0 => rfl
  | 1 => rfl
  | 2 => rfl
  | 3 => rfl
  | 4 => rfl
  | 5 => rfl
  | 6 => rfl
  | 7 => rfl
  | 8 => rfl
  | 9 => rfl
  | 10 => rfl
  | 11 => rfl
  | 12 => rfl
  | 13 => rfl
  | 14 => rfl
  | 15 => rfl
  | 16 => rfl
  | 17 => rfl
  | k + 18 => exact (up_n (by omega)).trans rfl
theorem la_15 {cI cJ cZ : ClassId} {q : Nat → Nat} {mi : Nat → Int} {ma : Nat → Nat → Int} {z : Int} {k : Nat} : va_up (cM cI cJ cZ q mi ma) (15) (.inl (cI, 4, .inl (fun i => iI (va_up (ma 15) k z i)))) = cM cI cJ cZ q mi (va_up ma 15 (va_up (ma 15) k z)) := by
  funext i
  match i with
  | 0 => rfl
  | 1 => rfl
  | 2 => rfl
  | 3 => rfl
  | 4 => rfl
  | 5 => rfl
  | 6 => rfl
  | 7 => rfl
  | 8 => rfl
  | 9 => rfl
  | 10 => rfl
  | 11 => rfl
  | 12 => rfl
  | 13 => rfl
  | 14 => rfl
  | 15 => rfl
  | 16 => rfl
  | 17 => rfl
  | k + 18 => exact (up_n (by omega)).trans rfl
theorem la_16 {cI cJ cZ : ClassId} {q : Nat → Nat} {mi : Nat → Int} {ma : Nat → Nat → Int} {z : Int} {k : Nat} : va_up (cM cI cJ cZ q mi ma) (16) (.inl (cI, 240, .inl (fun i => iI (va_up (ma 16) k z i)))) = cM cI cJ cZ q mi (va_up ma 16 (va_up (ma 16) k z)) := by
  funext i
  match i with
  | 0 => rfl
  | 1 => rfl
  | 2 => rfl
  | 3 => rfl
  | 4 => rfl
  | 5 => rfl
  | 6 => rfl
  | 7 => rfl
  | 8 => rfl
  | 9 => rfl
  | 10 => rfl
  | 11 => rfl
  | 12 => rfl
  | 13 => rfl
  | 14 => rfl
  | 15 => rfl
  | 16 => rfl
  | 17 => rfl
  | k + 18 => exact (up_n (by omega)).trans rfl
theorem la_17 {cI cJ cZ : ClassId} {q : Nat → Nat} {mi : Nat → Int} {ma : Nat → Nat → Int} {z : Int} {k : Nat} : va_up (cM cI cJ cZ q mi ma) (17) (.inl (cI, 60, .inl (fun i => iI (va_up (ma 17) k z i)))) = cM cI cJ cZ q mi (va_up ma 17 (va_up (ma 17) k z)) := by
  funext i
  match i with
  | 0 => rfl
  | 1 => rfl
  | 2 => rfl
  | 3 => rfl
  | 4 => rfl
  | 5 => rfl
  | 6 => rfl
  | 7 => rfl
  | 8 => rfl
  | 9 => rfl
  | 10 => rfl
  | 11 => rfl
  | 12 => rfl
  | 13 => rfl
  | 14 => rfl
  | 15 => rfl
  | 16 => rfl
  | 17 => rfl
  | k + 18 => exact (up_n (by omega)).trans rfl
