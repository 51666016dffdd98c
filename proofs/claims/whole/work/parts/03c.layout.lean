-- ===== the cells of the class, by numbers =====
def ceC : qCE := fun ad cy T i f g => if i < 61 then (match i with
  | 0 => .inr (5, [.ref (ad 1), .int (f 1), .int (f 2), .ref (ad 2), .ref (ad 21), .ref (ad 33), .ref (ad (61 + 5 * T 6)), .ref (ad 34), .ref (ad 36), .ref (ad 60)])
  | 1 => .inl (cy 0, 2000, .inl f)
  | 2 => .inr (4, [.ref (ad 3), .ref (ad 4), .ref (ad 5), .ref (ad 6), .ref (ad 13), .ref (ad 14), .int (f 6), .int (f 7)])
  | 3 => .inl (cy 1, 14, .inl f)
  | 4 => .inl (cy 1, 6, .inl f)
  | 5 => .inl (cy 1, 6, .inl f)
  | 6 => .inl (cy 5, 6, .inr (.inr (.inr (.inr (fun j => some (ad (7 + j)))))))
  | 7 => .inl (cy 0, 60, .inl f)
  | 8 => .inl (cy 0, 60, .inl f)
  | 9 => .inl (cy 0, 60, .inl f)
  | 10 => .inl (cy 0, 60, .inl f)
  | 11 => .inl (cy 0, 60, .inl f)
  | 12 => .inl (cy 0, 60, .inl f)
  | 13 => .inl (cy 1, 6, .inl f)
  | 14 => .inl (cy 6, 6, .inr (.inr (.inr (.inr (fun j => some (ad (15 + j)))))))
  | 15 => .inl (cy 1, 6, .inl f)
  | 16 => .inl (cy 1, 6, .inl f)
  | 17 => .inl (cy 1, 6, .inl f)
  | 18 => .inl (cy 1, 6, .inl f)
  | 19 => .inl (cy 1, 6, .inl f)
  | 20 => .inl (cy 1, 6, .inl f)
  | 21 => .inr (0, [.ref (ad 2), .ref (ad 22), .ref (ad 23), .ref (ad 30), .ref (ad 31), .ref (ad 32), .int (f 6), .int (f 7), .int (f 8)])
  | 22 => .inl (cy 1, 300, .inl f)
  | 23 => .inl (cy 6, 6, .inr (.inr (.inr (.inr (fun j => some (ad (24 + j)))))))
  | 24 => .inl (cy 1, 400, .inl f)
  | 25 => .inl (cy 1, 400, .inl f)
  | 26 => .inl (cy 1, 400, .inl f)
  | 27 => .inl (cy 1, 400, .inl f)
  | 28 => .inl (cy 1, 400, .inl f)
  | 29 => .inl (cy 1, 400, .inl f)
  | 30 => .inl (cy 1, 12, .inl f)
  | 31 => .inl (cy 1, 300, .inl f)
  | 32 => .inl (cy 1, 300, .inl f)
  | 33 => .inl (cy 4, 6, .inr (.inr (.inr (.inr (fun j => if j < 6 then some (ad (61 + 5 * T j)) else none)))))
  | 34 => .inr (2, [.ref (ad 35), .int (f 1), .ref (ad 1), .int (f 3), .int (f 4), .int (f 5), .int (f 6), .int (f 7), .int (f 8), .int (f 9)])
  | 35 => .inl (cy 1, 32, .inl f)
  | 36 => .inr (1, [.ref (ad 2), .ref (ad 21), .ref (ad 33), .ref (ad 37), .ref (ad 44), .ref (ad 51), .ref (ad 58), .ref (ad 59), .int (f 8), .int (f 9)])
  | 37 => .inl (cy 6, 6, .inr (.inr (.inr (.inr (fun j => some (ad (38 + j)))))))
  | 38 => .inl (cy 1, 15, .inl f)
  | 39 => .inl (cy 1, 15, .inl f)
  | 40 => .inl (cy 1, 15, .inl f)
  | 41 => .inl (cy 1, 15, .inl f)
  | 42 => .inl (cy 1, 15, .inl f)
  | 43 => .inl (cy 1, 15, .inl f)
  | 44 => .inl (cy 6, 6, .inr (.inr (.inr (.inr (fun j => some (ad (45 + j)))))))
  | 45 => .inl (cy 1, 15, .inl f)
  | 46 => .inl (cy 1, 15, .inl f)
  | 47 => .inl (cy 1, 15, .inl f)
  | 48 => .inl (cy 1, 15, .inl f)
  | 49 => .inl (cy 1, 15, .inl f)
  | 50 => .inl (cy 1, 15, .inl f)
  | 51 => .inl (cy 6, 6, .inr (.inr (.inr (.inr (fun j => some (ad (52 + j)))))))
  | 52 => .inl (cy 1, 15, .inl f)
  | 53 => .inl (cy 1, 15, .inl f)
  | 54 => .inl (cy 1, 15, .inl f)
  | 55 => .inl (cy 1, 15, .inl f)
  | 56 => .inl (cy 1, 15, .inl f)
  | 57 => .inl (cy 1, 15, .inl f)
  | 58 => .inl (cy 1, 6, .inl f)
  | 59 => .inl (cy 1, 14, .inl f)
  | _ => .inl (cy 1, 15, .inl f)) else if (i - 61) % 5 = 0 then .inr (3, [.ref (ad (i + 1)), .ref (ad (i + 2)), .ref (ad (i + 3)), .ref (ad (i + 4)), .int (f 4), .int (f 5)]) else if (i - 61) % 5 = 1 then .inl (cy 1, 12, .inl f) else if (i - 61) % 5 = 2 then .inl (cy 1, 12, .inl f) else if (i - 61) % 5 = 3 then .inl (cy 1, 400, .inl f) else .inl (cy 1, 32, .inl f)
theorem ceC_0 (ad : Nat → Nat) (cy : Nat → ClassId) (T : Nat → Nat) (f : Nat → Int32) (g : Nat → Int64) : ceC ad cy T 0 f g = .inr (5, [.ref (ad 1), .int (f 1), .int (f 2), .ref (ad 2), .ref (ad 21), .ref (ad 33), .ref (ad (61 + 5 * T 6)), .ref (ad 34), .ref (ad 36), .ref (ad 60)]) := rfl
theorem ceC_1 (ad : Nat → Nat) (cy : Nat → ClassId) (T : Nat → Nat) (f : Nat → Int32) (g : Nat → Int64) : ceC ad cy T 1 f g = .inl (cy 0, 2000, .inl f) := rfl
theorem ceC_2 (ad : Nat → Nat) (cy : Nat → ClassId) (T : Nat → Nat) (f : Nat → Int32) (g : Nat → Int64) : ceC ad cy T 2 f g = .inr (4, [.ref (ad 3), .ref (ad 4), .ref (ad 5), .ref (ad 6), .ref (ad 13), .ref (ad 14), .int (f 6), .int (f 7)]) := rfl
theorem ceC_3 (ad : Nat → Nat) (cy : Nat → ClassId) (T : Nat → Nat) (f : Nat → Int32) (g : Nat → Int64) : ceC ad cy T 3 f g = .inl (cy 1, 14, .inl f) := rfl
theorem ceC_4 (ad : Nat → Nat) (cy : Nat → ClassId) (T : Nat → Nat) (f : Nat → Int32) (g : Nat → Int64) : ceC ad cy T 4 f g = .inl (cy 1, 6, .inl f) := rfl
theorem ceC_5 (ad : Nat → Nat) (cy : Nat → ClassId) (T : Nat → Nat) (f : Nat → Int32) (g : Nat → Int64) : ceC ad cy T 5 f g = .inl (cy 1, 6, .inl f) := rfl
theorem ceC_6 (ad : Nat → Nat) (cy : Nat → ClassId) (T : Nat → Nat) (f : Nat → Int32) (g : Nat → Int64) : ceC ad cy T 6 f g = .inl (cy 5, 6, .inr (.inr (.inr (.inr (fun j => some (ad (7 + j))))))) := rfl
theorem ceC_7 (ad : Nat → Nat) (cy : Nat → ClassId) (T : Nat → Nat) (f : Nat → Int32) (g : Nat → Int64) : ceC ad cy T 7 f g = .inl (cy 0, 60, .inl f) := rfl
theorem ceC_8 (ad : Nat → Nat) (cy : Nat → ClassId) (T : Nat → Nat) (f : Nat → Int32) (g : Nat → Int64) : ceC ad cy T 8 f g = .inl (cy 0, 60, .inl f) := rfl
theorem ceC_9 (ad : Nat → Nat) (cy : Nat → ClassId) (T : Nat → Nat) (f : Nat → Int32) (g : Nat → Int64) : ceC ad cy T 9 f g = .inl (cy 0, 60, .inl f) := rfl
theorem ceC_10 (ad : Nat → Nat) (cy : Nat → ClassId) (T : Nat → Nat) (f : Nat → Int32) (g : Nat → Int64) : ceC ad cy T 10 f g = .inl (cy 0, 60, .inl f) := rfl
theorem ceC_11 (ad : Nat → Nat) (cy : Nat → ClassId) (T : Nat → Nat) (f : Nat → Int32) (g : Nat → Int64) : ceC ad cy T 11 f g = .inl (cy 0, 60, .inl f) := rfl
theorem ceC_12 (ad : Nat → Nat) (cy : Nat → ClassId) (T : Nat → Nat) (f : Nat → Int32) (g : Nat → Int64) : ceC ad cy T 12 f g = .inl (cy 0, 60, .inl f) := rfl
theorem ceC_13 (ad : Nat → Nat) (cy : Nat → ClassId) (T : Nat → Nat) (f : Nat → Int32) (g : Nat → Int64) : ceC ad cy T 13 f g = .inl (cy 1, 6, .inl f) := rfl
theorem ceC_14 (ad : Nat → Nat) (cy : Nat → ClassId) (T : Nat → Nat) (f : Nat → Int32) (g : Nat → Int64) : ceC ad cy T 14 f g = .inl (cy 6, 6, .inr (.inr (.inr (.inr (fun j => some (ad (15 + j))))))) := rfl
theorem ceC_15 (ad : Nat → Nat) (cy : Nat → ClassId) (T : Nat → Nat) (f : Nat → Int32) (g : Nat → Int64) : ceC ad cy T 15 f g = .inl (cy 1, 6, .inl f) := rfl
theorem ceC_16 (ad : Nat → Nat) (cy : Nat → ClassId) (T : Nat → Nat) (f : Nat → Int32) (g : Nat → Int64) : ceC ad cy T 16 f g = .inl (cy 1, 6, .inl f) := rfl
theorem ceC_17 (ad : Nat → Nat) (cy : Nat → ClassId) (T : Nat → Nat) (f : Nat → Int32) (g : Nat → Int64) : ceC ad cy T 17 f g = .inl (cy 1, 6, .inl f) := rfl
theorem ceC_18 (ad : Nat → Nat) (cy : Nat → ClassId) (T : Nat → Nat) (f : Nat → Int32) (g : Nat → Int64) : ceC ad cy T 18 f g = .inl (cy 1, 6, .inl f) := rfl
theorem ceC_19 (ad : Nat → Nat) (cy : Nat → ClassId) (T : Nat → Nat) (f : Nat → Int32) (g : Nat → Int64) : ceC ad cy T 19 f g = .inl (cy 1, 6, .inl f) := rfl
theorem ceC_20 (ad : Nat → Nat) (cy : Nat → ClassId) (T : Nat → Nat) (f : Nat → Int32) (g : Nat → Int64) : ceC ad cy T 20 f g = .inl (cy 1, 6, .inl f) := rfl
theorem ceC_21 (ad : Nat → Nat) (cy : Nat → ClassId) (T : Nat → Nat) (f : Nat → Int32) (g : Nat → Int64) : ceC ad cy T 21 f g = .inr (0, [.ref (ad 2), .ref (ad 22), .ref (ad 23), .ref (ad 30), .ref (ad 31), .ref (ad 32), .int (f 6), .int (f 7), .int (f 8)]) := rfl
theorem ceC_22 (ad : Nat → Nat) (cy : Nat → ClassId) (T : Nat → Nat) (f : Nat → Int32) (g : Nat → Int64) : ceC ad cy T 22 f g = .inl (cy 1, 300, .inl f) := rfl
theorem ceC_23 (ad : Nat → Nat) (cy : Nat → ClassId) (T : Nat → Nat) (f : Nat → Int32) (g : Nat → Int64) : ceC ad cy T 23 f g = .inl (cy 6, 6, .inr (.inr (.inr (.inr (fun j => some (ad (24 + j))))))) := rfl
theorem ceC_24 (ad : Nat → Nat) (cy : Nat → ClassId) (T : Nat → Nat) (f : Nat → Int32) (g : Nat → Int64) : ceC ad cy T 24 f g = .inl (cy 1, 400, .inl f) := rfl
theorem ceC_25 (ad : Nat → Nat) (cy : Nat → ClassId) (T : Nat → Nat) (f : Nat → Int32) (g : Nat → Int64) : ceC ad cy T 25 f g = .inl (cy 1, 400, .inl f) := rfl
theorem ceC_26 (ad : Nat → Nat) (cy : Nat → ClassId) (T : Nat → Nat) (f : Nat → Int32) (g : Nat → Int64) : ceC ad cy T 26 f g = .inl (cy 1, 400, .inl f) := rfl
theorem ceC_27 (ad : Nat → Nat) (cy : Nat → ClassId) (T : Nat → Nat) (f : Nat → Int32) (g : Nat → Int64) : ceC ad cy T 27 f g = .inl (cy 1, 400, .inl f) := rfl
theorem ceC_28 (ad : Nat → Nat) (cy : Nat → ClassId) (T : Nat → Nat) (f : Nat → Int32) (g : Nat → Int64) : ceC ad cy T 28 f g = .inl (cy 1, 400, .inl f) := rfl
theorem ceC_29 (ad : Nat → Nat) (cy : Nat → ClassId) (T : Nat → Nat) (f : Nat → Int32) (g : Nat → Int64) : ceC ad cy T 29 f g = .inl (cy 1, 400, .inl f) := rfl
theorem ceC_30 (ad : Nat → Nat) (cy : Nat → ClassId) (T : Nat → Nat) (f : Nat → Int32) (g : Nat → Int64) : ceC ad cy T 30 f g = .inl (cy 1, 12, .inl f) := rfl
theorem ceC_31 (ad : Nat → Nat) (cy : Nat → ClassId) (T : Nat → Nat) (f : Nat → Int32) (g : Nat → Int64) : ceC ad cy T 31 f g = .inl (cy 1, 300, .inl f) := rfl
theorem ceC_32 (ad : Nat → Nat) (cy : Nat → ClassId) (T : Nat → Nat) (f : Nat → Int32) (g : Nat → Int64) : ceC ad cy T 32 f g = .inl (cy 1, 300, .inl f) := rfl
theorem ceC_33 (ad : Nat → Nat) (cy : Nat → ClassId) (T : Nat → Nat) (f : Nat → Int32) (g : Nat → Int64) : ceC ad cy T 33 f g = .inl (cy 4, 6, .inr (.inr (.inr (.inr (fun j => if j < 6 then some (ad (61 + 5 * T j)) else none))))) := rfl
theorem ceC_34 (ad : Nat → Nat) (cy : Nat → ClassId) (T : Nat → Nat) (f : Nat → Int32) (g : Nat → Int64) : ceC ad cy T 34 f g = .inr (2, [.ref (ad 35), .int (f 1), .ref (ad 1), .int (f 3), .int (f 4), .int (f 5), .int (f 6), .int (f 7), .int (f 8), .int (f 9)]) := rfl
theorem ceC_35 (ad : Nat → Nat) (cy : Nat → ClassId) (T : Nat → Nat) (f : Nat → Int32) (g : Nat → Int64) : ceC ad cy T 35 f g = .inl (cy 1, 32, .inl f) := rfl
theorem ceC_36 (ad : Nat → Nat) (cy : Nat → ClassId) (T : Nat → Nat) (f : Nat → Int32) (g : Nat → Int64) : ceC ad cy T 36 f g = .inr (1, [.ref (ad 2), .ref (ad 21), .ref (ad 33), .ref (ad 37), .ref (ad 44), .ref (ad 51), .ref (ad 58), .ref (ad 59), .int (f 8), .int (f 9)]) := rfl
theorem ceC_37 (ad : Nat → Nat) (cy : Nat → ClassId) (T : Nat → Nat) (f : Nat → Int32) (g : Nat → Int64) : ceC ad cy T 37 f g = .inl (cy 6, 6, .inr (.inr (.inr (.inr (fun j => some (ad (38 + j))))))) := rfl
theorem ceC_38 (ad : Nat → Nat) (cy : Nat → ClassId) (T : Nat → Nat) (f : Nat → Int32) (g : Nat → Int64) : ceC ad cy T 38 f g = .inl (cy 1, 15, .inl f) := rfl
theorem ceC_39 (ad : Nat → Nat) (cy : Nat → ClassId) (T : Nat → Nat) (f : Nat → Int32) (g : Nat → Int64) : ceC ad cy T 39 f g = .inl (cy 1, 15, .inl f) := rfl
theorem ceC_40 (ad : Nat → Nat) (cy : Nat → ClassId) (T : Nat → Nat) (f : Nat → Int32) (g : Nat → Int64) : ceC ad cy T 40 f g = .inl (cy 1, 15, .inl f) := rfl
theorem ceC_41 (ad : Nat → Nat) (cy : Nat → ClassId) (T : Nat → Nat) (f : Nat → Int32) (g : Nat → Int64) : ceC ad cy T 41 f g = .inl (cy 1, 15, .inl f) := rfl
theorem ceC_42 (ad : Nat → Nat) (cy : Nat → ClassId) (T : Nat → Nat) (f : Nat → Int32) (g : Nat → Int64) : ceC ad cy T 42 f g = .inl (cy 1, 15, .inl f) := rfl
theorem ceC_43 (ad : Nat → Nat) (cy : Nat → ClassId) (T : Nat → Nat) (f : Nat → Int32) (g : Nat → Int64) : ceC ad cy T 43 f g = .inl (cy 1, 15, .inl f) := rfl
theorem ceC_44 (ad : Nat → Nat) (cy : Nat → ClassId) (T : Nat → Nat) (f : Nat → Int32) (g : Nat → Int64) : ceC ad cy T 44 f g = .inl (cy 6, 6, .inr (.inr (.inr (.inr (fun j => some (ad (45 + j))))))) := rfl
theorem ceC_45 (ad : Nat → Nat) (cy : Nat → ClassId) (T : Nat → Nat) (f : Nat → Int32) (g : Nat → Int64) : ceC ad cy T 45 f g = .inl (cy 1, 15, .inl f) := rfl
theorem ceC_46 (ad : Nat → Nat) (cy : Nat → ClassId) (T : Nat → Nat) (f : Nat → Int32) (g : Nat → Int64) : ceC ad cy T 46 f g = .inl (cy 1, 15, .inl f) := rfl
theorem ceC_47 (ad : Nat → Nat) (cy : Nat → ClassId) (T : Nat → Nat) (f : Nat → Int32) (g : Nat → Int64) : ceC ad cy T 47 f g = .inl (cy 1, 15, .inl f) := rfl
theorem ceC_48 (ad : Nat → Nat) (cy : Nat → ClassId) (T : Nat → Nat) (f : Nat → Int32) (g : Nat → Int64) : ceC ad cy T 48 f g = .inl (cy 1, 15, .inl f) := rfl
theorem ceC_49 (ad : Nat → Nat) (cy : Nat → ClassId) (T : Nat → Nat) (f : Nat → Int32) (g : Nat → Int64) : ceC ad cy T 49 f g = .inl (cy 1, 15, .inl f) := rfl
theorem ceC_50 (ad : Nat → Nat) (cy : Nat → ClassId) (T : Nat → Nat) (f : Nat → Int32) (g : Nat → Int64) : ceC ad cy T 50 f g = .inl (cy 1, 15, .inl f) := rfl
theorem ceC_51 (ad : Nat → Nat) (cy : Nat → ClassId) (T : Nat → Nat) (f : Nat → Int32) (g : Nat → Int64) : ceC ad cy T 51 f g = .inl (cy 6, 6, .inr (.inr (.inr (.inr (fun j => some (ad (52 + j))))))) := rfl
theorem ceC_52 (ad : Nat → Nat) (cy : Nat → ClassId) (T : Nat → Nat) (f : Nat → Int32) (g : Nat → Int64) : ceC ad cy T 52 f g = .inl (cy 1, 15, .inl f) := rfl
theorem ceC_53 (ad : Nat → Nat) (cy : Nat → ClassId) (T : Nat → Nat) (f : Nat → Int32) (g : Nat → Int64) : ceC ad cy T 53 f g = .inl (cy 1, 15, .inl f) := rfl
theorem ceC_54 (ad : Nat → Nat) (cy : Nat → ClassId) (T : Nat → Nat) (f : Nat → Int32) (g : Nat → Int64) : ceC ad cy T 54 f g = .inl (cy 1, 15, .inl f) := rfl
theorem ceC_55 (ad : Nat → Nat) (cy : Nat → ClassId) (T : Nat → Nat) (f : Nat → Int32) (g : Nat → Int64) : ceC ad cy T 55 f g = .inl (cy 1, 15, .inl f) := rfl
theorem ceC_56 (ad : Nat → Nat) (cy : Nat → ClassId) (T : Nat → Nat) (f : Nat → Int32) (g : Nat → Int64) : ceC ad cy T 56 f g = .inl (cy 1, 15, .inl f) := rfl
theorem ceC_57 (ad : Nat → Nat) (cy : Nat → ClassId) (T : Nat → Nat) (f : Nat → Int32) (g : Nat → Int64) : ceC ad cy T 57 f g = .inl (cy 1, 15, .inl f) := rfl
theorem ceC_58 (ad : Nat → Nat) (cy : Nat → ClassId) (T : Nat → Nat) (f : Nat → Int32) (g : Nat → Int64) : ceC ad cy T 58 f g = .inl (cy 1, 6, .inl f) := rfl
theorem ceC_59 (ad : Nat → Nat) (cy : Nat → ClassId) (T : Nat → Nat) (f : Nat → Int32) (g : Nat → Int64) : ceC ad cy T 59 f g = .inl (cy 1, 14, .inl f) := rfl
theorem ceC_60 (ad : Nat → Nat) (cy : Nat → ClassId) (T : Nat → Nat) (f : Nat → Int32) (g : Nat → Int64) : ceC ad cy T 60 f g = .inl (cy 1, 15, .inl f) := rfl
theorem ceC_r7 (ad : Nat → Nat) (cy : Nat → ClassId) (T : Nat → Nat) (f : Nat → Int32) (g : Nat → Int64) {j : Nat} (h : j < 6) : ceC ad cy T (7 + j) f g = .inl (cy 0, 60, .inl f) := by
  rcases (show j = 0 ∨ j = 1 ∨ j = 2 ∨ j = 3 ∨ j = 4 ∨ j = 5 by omega) with rfl | rfl | rfl | rfl | rfl | rfl <;> rfl
theorem ceC_r15 (ad : Nat → Nat) (cy : Nat → ClassId) (T : Nat → Nat) (f : Nat → Int32) (g : Nat → Int64) {j : Nat} (h : j < 6) : ceC ad cy T (15 + j) f g = .inl (cy 1, 6, .inl f) := by
  rcases (show j = 0 ∨ j = 1 ∨ j = 2 ∨ j = 3 ∨ j = 4 ∨ j = 5 by omega) with rfl | rfl | rfl | rfl | rfl | rfl <;> rfl
theorem ceC_r24 (ad : Nat → Nat) (cy : Nat → ClassId) (T : Nat → Nat) (f : Nat → Int32) (g : Nat → Int64) {j : Nat} (h : j < 6) : ceC ad cy T (24 + j) f g = .inl (cy 1, 400, .inl f) := by
  rcases (show j = 0 ∨ j = 1 ∨ j = 2 ∨ j = 3 ∨ j = 4 ∨ j = 5 by omega) with rfl | rfl | rfl | rfl | rfl | rfl <;> rfl
theorem ceC_r38 (ad : Nat → Nat) (cy : Nat → ClassId) (T : Nat → Nat) (f : Nat → Int32) (g : Nat → Int64) {j : Nat} (h : j < 6) : ceC ad cy T (38 + j) f g = .inl (cy 1, 15, .inl f) := by
  rcases (show j = 0 ∨ j = 1 ∨ j = 2 ∨ j = 3 ∨ j = 4 ∨ j = 5 by omega) with rfl | rfl | rfl | rfl | rfl | rfl <;> rfl
theorem ceC_r45 (ad : Nat → Nat) (cy : Nat → ClassId) (T : Nat → Nat) (f : Nat → Int32) (g : Nat → Int64) {j : Nat} (h : j < 6) : ceC ad cy T (45 + j) f g = .inl (cy 1, 15, .inl f) := by
  rcases (show j = 0 ∨ j = 1 ∨ j = 2 ∨ j = 3 ∨ j = 4 ∨ j = 5 by omega) with rfl | rfl | rfl | rfl | rfl | rfl <;> rfl
theorem ceC_r52 (ad : Nat → Nat) (cy : Nat → ClassId) (T : Nat → Nat) (f : Nat → Int32) (g : Nat → Int64) {j : Nat} (h : j < 6) : ceC ad cy T (52 + j) f g = .inl (cy 1, 15, .inl f) := by
  rcases (show j = 0 ∨ j = 1 ∨ j = 2 ∨ j = 3 ∨ j = 4 ∨ j = 5 by omega) with rfl | rfl | rfl | rfl | rfl | rfl <;> rfl
theorem ceC_t0 (ad : Nat → Nat) (cy : Nat → ClassId) (T : Nat → Nat) (f : Nat → Int32) (g : Nat → Int64) (t : Nat) : ceC ad cy T (61 + 5 * t) f g = .inr (3, [.ref (ad (61 + 5 * t + 1)), .ref (ad (61 + 5 * t + 2)), .ref (ad (61 + 5 * t + 3)), .ref (ad (61 + 5 * t + 4)), .int (f 4), .int (f 5)]) := by
  unfold ceC
  rw [if_neg (by omega), if_pos (by omega)]
theorem ceC_t1 (ad : Nat → Nat) (cy : Nat → ClassId) (T : Nat → Nat) (f : Nat → Int32) (g : Nat → Int64) (t : Nat) : ceC ad cy T (61 + 5 * t + 1) f g = .inl (cy 1, 12, .inl f) := by
  unfold ceC
  rw [if_neg (by omega), if_neg (by omega), if_pos (by omega)]
theorem ceC_t2 (ad : Nat → Nat) (cy : Nat → ClassId) (T : Nat → Nat) (f : Nat → Int32) (g : Nat → Int64) (t : Nat) : ceC ad cy T (61 + 5 * t + 2) f g = .inl (cy 1, 12, .inl f) := by
  unfold ceC
  rw [if_neg (by omega), if_neg (by omega), if_neg (by omega), if_pos (by omega)]
theorem ceC_t3 (ad : Nat → Nat) (cy : Nat → ClassId) (T : Nat → Nat) (f : Nat → Int32) (g : Nat → Int64) (t : Nat) : ceC ad cy T (61 + 5 * t + 3) f g = .inl (cy 1, 400, .inl f) := by
  unfold ceC
  rw [if_neg (by omega), if_neg (by omega), if_neg (by omega), if_neg (by omega), if_pos (by omega)]
theorem ceC_t4 (ad : Nat → Nat) (cy : Nat → ClassId) (T : Nat → Nat) (f : Nat → Int32) (g : Nat → Int64) (t : Nat) : ceC ad cy T (61 + 5 * t + 4) f g = .inl (cy 1, 32, .inl f) := by
  unfold ceC
  rw [if_neg (by omega), if_neg (by omega), if_neg (by omega), if_neg (by omega), if_neg (by omega)]
-- ===== the cells of the reference, by numbers =====
def ceM : qCE := fun ad cy T i f g => match i with
  | 0 => .inr (6, [.int (f 0), .ref (ad 1), .int (f 2), .ref (ad 2), .int (f 4), .ref (ad 3), .ref (ad 4), .ref (ad 5), .ref (ad 6), .ref (ad 7), .int (f 10), .int (f 11), .int (f 12), .int (f 13), .int (f 14), .int (f 15), .int (f 16), .int (f 17), .ref (ad 8), .int (f 19), .ref (ad 9), .ref (ad 10), .ref (ad 11), .ref (ad 12), .ref (ad 13), .ref (ad 14), .ref (ad 15), .ref (ad 16), .ref (ad 17), .ref (ad 18), .int (f 30), .ref (ad 19), .ref (ad 20), .ref (ad 21), .int (f 34), .int (f 35), .ref (ad 22), .int (f 37), .ref (ad 23), .ref (ad 24), .ref (ad 25), .ref (ad 26), .ref (ad 27), .int (f 43), .ref (ad 28), .int (f 45), .ref (ad 29), .ref (ad 30), .ref (ad 31), .int (f 49), .ref (ad 32), .ref (ad 33), .ref (ad 34), .ref (ad 35), .ref (ad 36), .ref (ad 37), .ref (ad 38), .ref (ad 39), .ref (ad 40), .ref (ad 41)])
  | 1 => .inl (cy 0, 2000, .inl f)
  | 2 => .inl (cy 0, 2000, .inl f)
  | 3 => .inl (cy 1, 403, .inl f)
  | 4 => .inl (cy 1, 403, .inl f)
  | 5 => .inl (cy 1, 403, .inl f)
  | 6 => .inl (cy 2, 403, .inr (.inl g))
  | 7 => .inl (cy 2, 14, .inr (.inl g))
  | 8 => .inl (cy 1, 6, .inl f)
  | 9 => .inl (cy 1, 12, .inl f)
  | 10 => .inl (cy 1, 144, .inl f)
  | 11 => .inl (cy 1, 144, .inl f)
  | 12 => .inl (cy 1, 144, .inl f)
  | 13 => .inl (cy 1, 12, .inl f)
  | 14 => .inl (cy 1, 2400, .inl f)
  | 15 => .inl (cy 1, 2400, .inl f)
  | 16 => .inl (cy 1, 2400, .inl f)
  | 17 => .inl (cy 1, 2400, .inl f)
  | 18 => .inl (cy 3, 2400, .inl f)
  | 19 => .inl (cy 1, 6000, .inl f)
  | 20 => .inl (cy 1, 6000, .inl f)
  | 21 => .inl (cy 1, 48, .inl f)
  | 22 => .inl (cy 1, 14, .inl f)
  | 23 => .inl (cy 1, 6, .inl f)
  | 24 => .inl (cy 1, 6, .inl f)
  | 25 => .inl (cy 1, 6, .inl f)
  | 26 => .inl (cy 1, 360, .inl f)
  | 27 => .inl (cy 1, 36, .inl f)
  | 28 => .inl (cy 1, 12, .inl f)
  | 29 => .inl (cy 3, 300, .inl f)
  | 30 => .inl (cy 1, 300, .inl f)
  | 31 => .inl (cy 1, 300, .inl f)
  | 32 => .inl (cy 1, 6, .inl f)
  | 33 => .inl (cy 1, 96, .inl f)
  | 34 => .inl (cy 1, 96, .inl f)
  | 35 => .inl (cy 1, 96, .inl f)
  | 36 => .inl (cy 1, 96, .inl f)
  | 37 => .inl (cy 3, 96, .inl f)
  | 38 => .inl (cy 1, 8, .inl f)
  | 39 => .inl (cy 1, 500, .inl f)
  | 40 => .inl (cy 3, 12, .inl f)
  | _ => .inl (cy 1, 16, .inl f)
theorem ceM_0 (ad : Nat → Nat) (cy : Nat → ClassId) (T : Nat → Nat) (f : Nat → Int32) (g : Nat → Int64) : ceM ad cy T 0 f g = .inr (6, [.int (f 0), .ref (ad 1), .int (f 2), .ref (ad 2), .int (f 4), .ref (ad 3), .ref (ad 4), .ref (ad 5), .ref (ad 6), .ref (ad 7), .int (f 10), .int (f 11), .int (f 12), .int (f 13), .int (f 14), .int (f 15), .int (f 16), .int (f 17), .ref (ad 8), .int (f 19), .ref (ad 9), .ref (ad 10), .ref (ad 11), .ref (ad 12), .ref (ad 13), .ref (ad 14), .ref (ad 15), .ref (ad 16), .ref (ad 17), .ref (ad 18), .int (f 30), .ref (ad 19), .ref (ad 20), .ref (ad 21), .int (f 34), .int (f 35), .ref (ad 22), .int (f 37), .ref (ad 23), .ref (ad 24), .ref (ad 25), .ref (ad 26), .ref (ad 27), .int (f 43), .ref (ad 28), .int (f 45), .ref (ad 29), .ref (ad 30), .ref (ad 31), .int (f 49), .ref (ad 32), .ref (ad 33), .ref (ad 34), .ref (ad 35), .ref (ad 36), .ref (ad 37), .ref (ad 38), .ref (ad 39), .ref (ad 40), .ref (ad 41)]) := rfl
theorem ceM_1 (ad : Nat → Nat) (cy : Nat → ClassId) (T : Nat → Nat) (f : Nat → Int32) (g : Nat → Int64) : ceM ad cy T 1 f g = .inl (cy 0, 2000, .inl f) := rfl
theorem ceM_2 (ad : Nat → Nat) (cy : Nat → ClassId) (T : Nat → Nat) (f : Nat → Int32) (g : Nat → Int64) : ceM ad cy T 2 f g = .inl (cy 0, 2000, .inl f) := rfl
theorem ceM_3 (ad : Nat → Nat) (cy : Nat → ClassId) (T : Nat → Nat) (f : Nat → Int32) (g : Nat → Int64) : ceM ad cy T 3 f g = .inl (cy 1, 403, .inl f) := rfl
theorem ceM_4 (ad : Nat → Nat) (cy : Nat → ClassId) (T : Nat → Nat) (f : Nat → Int32) (g : Nat → Int64) : ceM ad cy T 4 f g = .inl (cy 1, 403, .inl f) := rfl
theorem ceM_5 (ad : Nat → Nat) (cy : Nat → ClassId) (T : Nat → Nat) (f : Nat → Int32) (g : Nat → Int64) : ceM ad cy T 5 f g = .inl (cy 1, 403, .inl f) := rfl
theorem ceM_6 (ad : Nat → Nat) (cy : Nat → ClassId) (T : Nat → Nat) (f : Nat → Int32) (g : Nat → Int64) : ceM ad cy T 6 f g = .inl (cy 2, 403, .inr (.inl g)) := rfl
theorem ceM_7 (ad : Nat → Nat) (cy : Nat → ClassId) (T : Nat → Nat) (f : Nat → Int32) (g : Nat → Int64) : ceM ad cy T 7 f g = .inl (cy 2, 14, .inr (.inl g)) := rfl
theorem ceM_8 (ad : Nat → Nat) (cy : Nat → ClassId) (T : Nat → Nat) (f : Nat → Int32) (g : Nat → Int64) : ceM ad cy T 8 f g = .inl (cy 1, 6, .inl f) := rfl
theorem ceM_9 (ad : Nat → Nat) (cy : Nat → ClassId) (T : Nat → Nat) (f : Nat → Int32) (g : Nat → Int64) : ceM ad cy T 9 f g = .inl (cy 1, 12, .inl f) := rfl
theorem ceM_10 (ad : Nat → Nat) (cy : Nat → ClassId) (T : Nat → Nat) (f : Nat → Int32) (g : Nat → Int64) : ceM ad cy T 10 f g = .inl (cy 1, 144, .inl f) := rfl
theorem ceM_11 (ad : Nat → Nat) (cy : Nat → ClassId) (T : Nat → Nat) (f : Nat → Int32) (g : Nat → Int64) : ceM ad cy T 11 f g = .inl (cy 1, 144, .inl f) := rfl
theorem ceM_12 (ad : Nat → Nat) (cy : Nat → ClassId) (T : Nat → Nat) (f : Nat → Int32) (g : Nat → Int64) : ceM ad cy T 12 f g = .inl (cy 1, 144, .inl f) := rfl
theorem ceM_13 (ad : Nat → Nat) (cy : Nat → ClassId) (T : Nat → Nat) (f : Nat → Int32) (g : Nat → Int64) : ceM ad cy T 13 f g = .inl (cy 1, 12, .inl f) := rfl
theorem ceM_14 (ad : Nat → Nat) (cy : Nat → ClassId) (T : Nat → Nat) (f : Nat → Int32) (g : Nat → Int64) : ceM ad cy T 14 f g = .inl (cy 1, 2400, .inl f) := rfl
theorem ceM_15 (ad : Nat → Nat) (cy : Nat → ClassId) (T : Nat → Nat) (f : Nat → Int32) (g : Nat → Int64) : ceM ad cy T 15 f g = .inl (cy 1, 2400, .inl f) := rfl
theorem ceM_16 (ad : Nat → Nat) (cy : Nat → ClassId) (T : Nat → Nat) (f : Nat → Int32) (g : Nat → Int64) : ceM ad cy T 16 f g = .inl (cy 1, 2400, .inl f) := rfl
theorem ceM_17 (ad : Nat → Nat) (cy : Nat → ClassId) (T : Nat → Nat) (f : Nat → Int32) (g : Nat → Int64) : ceM ad cy T 17 f g = .inl (cy 1, 2400, .inl f) := rfl
theorem ceM_18 (ad : Nat → Nat) (cy : Nat → ClassId) (T : Nat → Nat) (f : Nat → Int32) (g : Nat → Int64) : ceM ad cy T 18 f g = .inl (cy 3, 2400, .inl f) := rfl
theorem ceM_19 (ad : Nat → Nat) (cy : Nat → ClassId) (T : Nat → Nat) (f : Nat → Int32) (g : Nat → Int64) : ceM ad cy T 19 f g = .inl (cy 1, 6000, .inl f) := rfl
theorem ceM_20 (ad : Nat → Nat) (cy : Nat → ClassId) (T : Nat → Nat) (f : Nat → Int32) (g : Nat → Int64) : ceM ad cy T 20 f g = .inl (cy 1, 6000, .inl f) := rfl
theorem ceM_21 (ad : Nat → Nat) (cy : Nat → ClassId) (T : Nat → Nat) (f : Nat → Int32) (g : Nat → Int64) : ceM ad cy T 21 f g = .inl (cy 1, 48, .inl f) := rfl
theorem ceM_22 (ad : Nat → Nat) (cy : Nat → ClassId) (T : Nat → Nat) (f : Nat → Int32) (g : Nat → Int64) : ceM ad cy T 22 f g = .inl (cy 1, 14, .inl f) := rfl
theorem ceM_23 (ad : Nat → Nat) (cy : Nat → ClassId) (T : Nat → Nat) (f : Nat → Int32) (g : Nat → Int64) : ceM ad cy T 23 f g = .inl (cy 1, 6, .inl f) := rfl
theorem ceM_24 (ad : Nat → Nat) (cy : Nat → ClassId) (T : Nat → Nat) (f : Nat → Int32) (g : Nat → Int64) : ceM ad cy T 24 f g = .inl (cy 1, 6, .inl f) := rfl
theorem ceM_25 (ad : Nat → Nat) (cy : Nat → ClassId) (T : Nat → Nat) (f : Nat → Int32) (g : Nat → Int64) : ceM ad cy T 25 f g = .inl (cy 1, 6, .inl f) := rfl
theorem ceM_26 (ad : Nat → Nat) (cy : Nat → ClassId) (T : Nat → Nat) (f : Nat → Int32) (g : Nat → Int64) : ceM ad cy T 26 f g = .inl (cy 1, 360, .inl f) := rfl
theorem ceM_27 (ad : Nat → Nat) (cy : Nat → ClassId) (T : Nat → Nat) (f : Nat → Int32) (g : Nat → Int64) : ceM ad cy T 27 f g = .inl (cy 1, 36, .inl f) := rfl
theorem ceM_28 (ad : Nat → Nat) (cy : Nat → ClassId) (T : Nat → Nat) (f : Nat → Int32) (g : Nat → Int64) : ceM ad cy T 28 f g = .inl (cy 1, 12, .inl f) := rfl
theorem ceM_29 (ad : Nat → Nat) (cy : Nat → ClassId) (T : Nat → Nat) (f : Nat → Int32) (g : Nat → Int64) : ceM ad cy T 29 f g = .inl (cy 3, 300, .inl f) := rfl
theorem ceM_30 (ad : Nat → Nat) (cy : Nat → ClassId) (T : Nat → Nat) (f : Nat → Int32) (g : Nat → Int64) : ceM ad cy T 30 f g = .inl (cy 1, 300, .inl f) := rfl
theorem ceM_31 (ad : Nat → Nat) (cy : Nat → ClassId) (T : Nat → Nat) (f : Nat → Int32) (g : Nat → Int64) : ceM ad cy T 31 f g = .inl (cy 1, 300, .inl f) := rfl
theorem ceM_32 (ad : Nat → Nat) (cy : Nat → ClassId) (T : Nat → Nat) (f : Nat → Int32) (g : Nat → Int64) : ceM ad cy T 32 f g = .inl (cy 1, 6, .inl f) := rfl
theorem ceM_33 (ad : Nat → Nat) (cy : Nat → ClassId) (T : Nat → Nat) (f : Nat → Int32) (g : Nat → Int64) : ceM ad cy T 33 f g = .inl (cy 1, 96, .inl f) := rfl
theorem ceM_34 (ad : Nat → Nat) (cy : Nat → ClassId) (T : Nat → Nat) (f : Nat → Int32) (g : Nat → Int64) : ceM ad cy T 34 f g = .inl (cy 1, 96, .inl f) := rfl
theorem ceM_35 (ad : Nat → Nat) (cy : Nat → ClassId) (T : Nat → Nat) (f : Nat → Int32) (g : Nat → Int64) : ceM ad cy T 35 f g = .inl (cy 1, 96, .inl f) := rfl
theorem ceM_36 (ad : Nat → Nat) (cy : Nat → ClassId) (T : Nat → Nat) (f : Nat → Int32) (g : Nat → Int64) : ceM ad cy T 36 f g = .inl (cy 1, 96, .inl f) := rfl
theorem ceM_37 (ad : Nat → Nat) (cy : Nat → ClassId) (T : Nat → Nat) (f : Nat → Int32) (g : Nat → Int64) : ceM ad cy T 37 f g = .inl (cy 3, 96, .inl f) := rfl
theorem ceM_38 (ad : Nat → Nat) (cy : Nat → ClassId) (T : Nat → Nat) (f : Nat → Int32) (g : Nat → Int64) : ceM ad cy T 38 f g = .inl (cy 1, 8, .inl f) := rfl
theorem ceM_39 (ad : Nat → Nat) (cy : Nat → ClassId) (T : Nat → Nat) (f : Nat → Int32) (g : Nat → Int64) : ceM ad cy T 39 f g = .inl (cy 1, 500, .inl f) := rfl
theorem ceM_40 (ad : Nat → Nat) (cy : Nat → ClassId) (T : Nat → Nat) (f : Nat → Int32) (g : Nat → Int64) : ceM ad cy T 40 f g = .inl (cy 3, 12, .inl f) := rfl
theorem ceM_41 (ad : Nat → Nat) (cy : Nat → ClassId) (T : Nat → Nat) (f : Nat → Int32) (g : Nat → Int64) : ceM ad cy T 41 f g = .inl (cy 1, 16, .inl f) := rfl

