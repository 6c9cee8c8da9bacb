/-! The class's state: ints, int arrays, double arrays, callers, by number -/
abbrev CS : Type := (Nat → Int32) × (Nat → Nat → Int32) × (Nat → Nat → UInt64) × (Nat → Option Nat) × (Nat → UInt64)
def gI (σ : CS) (k : Nat) : Int32 := σ.1 k
def gA (σ : CS) (k : Nat) : Nat → Int32 := σ.2.1 k
def gD (σ : CS) (k : Nat) : Nat → UInt64 := σ.2.2.1 k
def gC (σ : CS) (k : Nat) : Option Nat := σ.2.2.2.1 k
def gX (σ : CS) (k : Nat) : UInt64 := σ.2.2.2.2 k
def sI (σ : CS) (k : Nat) (v : Int32) : CS := (va_up σ.1 k v, σ.2)
def sA (σ : CS) (k : Nat) (v : Nat → Int32) : CS := (σ.1, va_up σ.2.1 k v, σ.2.2)
def sD (σ : CS) (k : Nat) (v : Nat → UInt64) : CS := (σ.1, σ.2.1, va_up σ.2.2.1 k v, σ.2.2.2)
def sC (σ : CS) (k : Nat) (v : Option Nat) : CS := (σ.1, σ.2.1, σ.2.2.1, va_up σ.2.2.2.1 k v, σ.2.2.2.2)
def sX (σ : CS) (k : Nat) (v : UInt64) : CS := (σ.1, σ.2.1, σ.2.2.1, σ.2.2.2.1, va_up σ.2.2.2.2 k v)
theorem gI_sI {σ : CS} {k : Nat} {v : Int32} : gI (sI σ k v) k = v := va_up_self _ _ _
theorem gI_s {σ : CS} {k j : Nat} {v : Int32} (h : j ≠ k) : gI (sI σ k v) j = gI σ j := va_up_ne _ _ h
theorem gA_sA {σ : CS} {k : Nat} {v : Nat → Int32} : gA (sA σ k v) k = v := va_up_self _ _ _
theorem gA_s {σ : CS} {k j : Nat} {v : Nat → Int32} (h : j ≠ k) : gA (sA σ k v) j = gA σ j := va_up_ne _ _ h
theorem gD_sD {σ : CS} {k : Nat} {v : Nat → UInt64} : gD (sD σ k v) k = v := va_up_self _ _ _
theorem gD_s {σ : CS} {k j : Nat} {v : Nat → UInt64} (h : j ≠ k) : gD (sD σ k v) j = gD σ j := va_up_ne _ _ h
theorem gC_sC {σ : CS} {k : Nat} {v : Option Nat} : gC (sC σ k v) k = v := va_up_self _ _ _
theorem gC_s {σ : CS} {k j : Nat} {v : Option Nat} (h : j ≠ k) : gC (sC σ k v) j = gC σ j := va_up_ne _ _ h
theorem gX_sX {σ : CS} {k : Nat} {v : UInt64} : gX (sX σ k v) k = v := va_up_self _ _ _
theorem gX_s {σ : CS} {k j : Nat} {v : UInt64} (h : j ≠ k) : gX (sX σ k v) j = gX σ j := va_up_ne _ _ h
theorem gA_sI {σ : CS} {k j : Nat} {v : Int32} : gA (sI σ k v) j = gA σ j := rfl
theorem gD_sI {σ : CS} {k j : Nat} {v : Int32} : gD (sI σ k v) j = gD σ j := rfl
theorem gC_sI {σ : CS} {k j : Nat} {v : Int32} : gC (sI σ k v) j = gC σ j := rfl
theorem gX_sI {σ : CS} {k j : Nat} {v : Int32} : gX (sI σ k v) j = gX σ j := rfl
theorem gI_sA {σ : CS} {k j : Nat} {v : Nat → Int32} : gI (sA σ k v) j = gI σ j := rfl
theorem gD_sA {σ : CS} {k j : Nat} {v : Nat → Int32} : gD (sA σ k v) j = gD σ j := rfl
theorem gC_sA {σ : CS} {k j : Nat} {v : Nat → Int32} : gC (sA σ k v) j = gC σ j := rfl
theorem gX_sA {σ : CS} {k j : Nat} {v : Nat → Int32} : gX (sA σ k v) j = gX σ j := rfl
theorem gI_sD {σ : CS} {k j : Nat} {v : Nat → UInt64} : gI (sD σ k v) j = gI σ j := rfl
theorem gA_sD {σ : CS} {k j : Nat} {v : Nat → UInt64} : gA (sD σ k v) j = gA σ j := rfl
theorem gC_sD {σ : CS} {k j : Nat} {v : Nat → UInt64} : gC (sD σ k v) j = gC σ j := rfl
theorem gX_sD {σ : CS} {k j : Nat} {v : Nat → UInt64} : gX (sD σ k v) j = gX σ j := rfl
theorem gI_sC {σ : CS} {k j : Nat} {v : Option Nat} : gI (sC σ k v) j = gI σ j := rfl
theorem gA_sC {σ : CS} {k j : Nat} {v : Option Nat} : gA (sC σ k v) j = gA σ j := rfl
theorem gD_sC {σ : CS} {k j : Nat} {v : Option Nat} : gD (sC σ k v) j = gD σ j := rfl
theorem gX_sC {σ : CS} {k j : Nat} {v : Option Nat} : gX (sC σ k v) j = gX σ j := rfl
theorem gI_sX {σ : CS} {k j : Nat} {v : UInt64} : gI (sX σ k v) j = gI σ j := rfl
theorem gA_sX {σ : CS} {k j : Nat} {v : UInt64} : gA (sX σ k v) j = gA σ j := rfl
theorem gD_sX {σ : CS} {k j : Nat} {v : UInt64} : gD (sX σ k v) j = gD σ j := rfl
theorem gC_sX {σ : CS} {k j : Nat} {v : UInt64} : gC (sX σ k v) j = gC σ j := rfl
/-- an environment's caller as a value -/
def cv (ad : Nat → Nat) (o : Option Nat) : Value := match o with
  | none => .null
  | some c => .ref (ad (15 + c))
theorem cv_some (ad : Nat → Nat) (c : Nat) : cv ad (some c) = .ref (ad (15 + c)) := rfl
theorem cv_none (ad : Nat → Nat) : cv ad none = .null := rfl
abbrev CI : Type := ClassId × ClassId × ClassId
/-- the classes whose objects the worlds hold -/
abbrev clA : List vw_C := [(R_NF, F_NF, 3), (R_EN, F_EN, 6), (R_PR, F_PR, 8), (R_ST, F_ST, 6), (R_WK, F_WK, 13), (R_MO, F_MO, 39)]
abbrev tyC (cs : CI) : List (ClassId × FieldType) := [(cs.1, .int), (cs.2.1, .double), (cs.2.2, .object "NameForge$Environment")]
/-- an environment's cells -/
def contE (ad : Nat → Nat) (cs : CI) (σ : CS) (k : Nat) : va_E :=
  if k < 9 then .inr (1, [cv ad (gC σ k), .ref (ad (24 + k)), .ref (ad (33 + k)), .ref (ad (42 + k)), .int (gI σ (20 + k)), .int (gI σ (30 + k))])
  else if k < 18 then .inl (cs.1, 2, .inl (gA σ (10 + (k - 9))))
  else if k < 27 then .inl (cs.2.1, 2, .inr (.inr (.inr (.inl (gD σ (10 + (k - 18)))))))
  else .inl (cs.2.1, 2, .inr (.inr (.inr (.inl (gD σ (20 + (k - 27)))))))
/-- what the class's cells hold -/
def cont (ad : Nat → Nat) (cs : CI) (σ : CS) : Nat → va_E
  | 0 => .inr (0, [.ref (ad 1), .ref (ad 9), .ref (ad 12)])
  | 1 => .inr (2, [.ref (ad 2), .ref (ad 3), .ref (ad 4), .ref (ad 5), .int (gI σ 8), .ref (ad 6), .ref (ad 7), .ref (ad 8)])
  | 2 => .inl (cs.1, 48, .inl (gA σ 0))
  | 3 => .inl (cs.1, 48, .inl (gA σ 1))
  | 4 => .inl (cs.1, 48, .inl (gA σ 2))
  | 5 => .inl (cs.1, 48, .inl (gA σ 3))
  | 6 => .inl (cs.1, 4, .inl (gA σ 4))
  | 7 => .inl (cs.1, 4, .inl (gA σ 5))
  | 8 => .inl (cs.1, 4, .inl (gA σ 6))
  | 9 => .inr (3, [.ref (ad 10), .ref (ad 11), .int (gI σ 9), .int (gI σ 10), .int (gI σ 11), .int (gI σ 12)])
  | 10 => .inl (cs.2.1, 8, .inr (.inr (.inr (.inl (gD σ 0)))))
  | 11 => .inl (cs.2.1, 25, .inr (.inr (.inr (.inl (gD σ 1)))))
  | 12 => .inr (4, [.int (gI σ 0), .int (gI σ 1), .int (gI σ 2), .int (gI σ 3), .int (gI σ 4), .ref (ad 1), .ref (ad 9), .ref (ad 23), .ref (ad 14), .ref (ad 13), .int (gI σ 5), .int (gI σ 6), .int (gI σ 7)])
  | 13 => .inl (cs.1, 4, .inl (gA σ 7))
  | 14 => .inl (cs.2.2, 8, .inr (.inr (.inr (.inr (fun j => some (ad (15 + j)))))))
  | k + 15 => contE ad cs σ k
section CT
variable {ad : Nat → Nat} {cs : CI} {σ : CS} {h : Nat}
theorem ct_o (hh : h < 9) : cont ad cs σ (15 + h) = .inr (1, [cv ad (gC σ h), .ref (ad (24 + h)), .ref (ad (33 + h)), .ref (ad (42 + h)), .int (gI σ (20 + h)), .int (gI σ (30 + h))]) := by
  rw [Nat.add_comm]
  show contE ad cs σ h = _
  unfold contE
  rw [if_pos hh]
theorem ct_g (hh : h < 9) : cont ad cs σ (24 + h) = .inl (cs.1, 2, .inl (gA σ (10 + h))) := by
  rw [show 24 + h = (9 + h) + 15 by omega]
  show contE ad cs σ (9 + h) = _
  unfold contE
  rw [if_neg (by omega), if_pos (by omega), show 9 + h - 9 = h by omega]
theorem ct_v (hh : h < 9) : cont ad cs σ (33 + h) = .inl (cs.2.1, 2, .inr (.inr (.inr (.inl (gD σ (10 + h)))))) := by
  rw [show 33 + h = (18 + h) + 15 by omega]
  show contE ad cs σ (18 + h) = _
  unfold contE
  rw [if_neg (by omega), if_neg (by omega), if_pos (by omega), show 18 + h - 18 = h by omega]
theorem ct_l (hh : h < 9) : cont ad cs σ (42 + h) = .inl (cs.2.1, 2, .inr (.inr (.inr (.inl (gD σ (20 + h)))))) := by
  rw [show 42 + h = (27 + h) + 15 by omega]
  show contE ad cs σ (27 + h) = _
  unfold contE
  rw [if_neg (by omega), if_neg (by omega), if_neg (by omega), show 27 + h - 27 = h by omega]
/-- two states that differ in one cell -/
theorem up_of {σ' : CS} {c : Nat} {e : va_E} (h1 : cont ad cs σ' c = e) (h2 : ∀ k, k ≠ c → cont ad cs σ k = cont ad cs σ' k) : va_up (cont ad cs σ) c e = cont ad cs σ' := by
  funext k
  by_cases hk : k = c
  · subst hk
    rw [va_up_self, h1]
  · rw [va_up_ne _ _ hk, h2 k hk]
theorem cE_I {j : Nat} {v : Int32} (hj : j < 20 ∨ 39 < j) (k : Nat) : contE ad cs (sI σ j v) k = contE ad cs σ k := by
  unfold contE
  by_cases hk : k < 9
  · rw [if_pos hk, if_pos hk, gI_s (show 20 + k ≠ j by omega), gI_s (show 30 + k ≠ j by omega)]
    rfl
  · rw [if_neg hk, if_neg hk]
    rfl
theorem cE_A {j : Nat} {v : Nat → Int32} (hj : j < 10) (k : Nat) : contE ad cs (sA σ j v) k = contE ad cs σ k := by
  unfold contE
  by_cases hk : k < 9
  · rw [if_pos hk, if_pos hk]
    rfl
  · rw [gA_s (show 10 + (k - 9) ≠ j by omega)]
    rfl
theorem cE_D {j : Nat} {v : Nat → UInt64} (hj : j < 10) (k : Nat) : contE ad cs (sD σ j v) k = contE ad cs σ k := by
  unfold contE
  rw [gD_s (show 10 + (k - 18) ≠ j by omega), gD_s (show 20 + (k - 27) ≠ j by omega)]
  rfl
theorem up_PR_size {v : Int32} : va_up (cont ad cs σ) 1 (.inr (2, [.ref (ad 2), .ref (ad 3), .ref (ad 4), .ref (ad 5), .int v, .ref (ad 6), .ref (ad 7), .ref (ad 8)])) = cont ad cs (sI σ 8 v) := by
  refine up_of ?_ ?_
  · simp only [cont, gI_sI]
  · intro k hk
    match k, hk with
    | 0, _ => rfl
    | 1, hk => exact absurd rfl hk
    | 2, _ => rfl
    | 3, _ => rfl
    | 4, _ => rfl
    | 5, _ => rfl
    | 6, _ => rfl
    | 7, _ => rfl
    | 8, _ => rfl
    | 9, _ => simp only [cont, gI_s (show (9 : Nat) ≠ 8 by decide), gI_s (show (10 : Nat) ≠ 8 by decide), gI_s (show (11 : Nat) ≠ 8 by decide), gI_s (show (12 : Nat) ≠ 8 by decide)]
    | 10, _ => rfl
    | 11, _ => rfl
    | 12, _ => simp only [cont, gI_s (show (0 : Nat) ≠ 8 by decide), gI_s (show (1 : Nat) ≠ 8 by decide), gI_s (show (2 : Nat) ≠ 8 by decide), gI_s (show (3 : Nat) ≠ 8 by decide), gI_s (show (4 : Nat) ≠ 8 by decide), gI_s (show (5 : Nat) ≠ 8 by decide), gI_s (show (6 : Nat) ≠ 8 by decide), gI_s (show (7 : Nat) ≠ 8 by decide)]
    | 13, _ => rfl
    | 14, _ => rfl
    | k + 15, _ => exact (cE_I (by decide) k).symm
theorem up_ST_firstRow {v : Int32} : va_up (cont ad cs σ) 9 (.inr (3, [.ref (ad 10), .ref (ad 11), .int v, .int (gI σ 10), .int (gI σ 11), .int (gI σ 12)])) = cont ad cs (sI σ 9 v) := by
  refine up_of ?_ ?_
  · simp only [cont, gI_sI, gI_s (show (10 : Nat) ≠ 9 by decide), gI_s (show (11 : Nat) ≠ 9 by decide), gI_s (show (12 : Nat) ≠ 9 by decide)]
  · intro k hk
    match k, hk with
    | 0, _ => rfl
    | 1, _ => simp only [cont, gI_s (show (8 : Nat) ≠ 9 by decide)]
    | 2, _ => rfl
    | 3, _ => rfl
    | 4, _ => rfl
    | 5, _ => rfl
    | 6, _ => rfl
    | 7, _ => rfl
    | 8, _ => rfl
    | 9, hk => exact absurd rfl hk
    | 10, _ => rfl
    | 11, _ => rfl
    | 12, _ => simp only [cont, gI_s (show (0 : Nat) ≠ 9 by decide), gI_s (show (1 : Nat) ≠ 9 by decide), gI_s (show (2 : Nat) ≠ 9 by decide), gI_s (show (3 : Nat) ≠ 9 by decide), gI_s (show (4 : Nat) ≠ 9 by decide), gI_s (show (5 : Nat) ≠ 9 by decide), gI_s (show (6 : Nat) ≠ 9 by decide), gI_s (show (7 : Nat) ≠ 9 by decide)]
    | 13, _ => rfl
    | 14, _ => rfl
    | k + 15, _ => exact (cE_I (by decide) k).symm
theorem up_ST_lastRow {v : Int32} : va_up (cont ad cs σ) 9 (.inr (3, [.ref (ad 10), .ref (ad 11), .int (gI σ 9), .int v, .int (gI σ 11), .int (gI σ 12)])) = cont ad cs (sI σ 10 v) := by
  refine up_of ?_ ?_
  · simp only [cont, gI_sI, gI_s (show (9 : Nat) ≠ 10 by decide), gI_s (show (11 : Nat) ≠ 10 by decide), gI_s (show (12 : Nat) ≠ 10 by decide)]
  · intro k hk
    match k, hk with
    | 0, _ => rfl
    | 1, _ => simp only [cont, gI_s (show (8 : Nat) ≠ 10 by decide)]
    | 2, _ => rfl
    | 3, _ => rfl
    | 4, _ => rfl
    | 5, _ => rfl
    | 6, _ => rfl
    | 7, _ => rfl
    | 8, _ => rfl
    | 9, hk => exact absurd rfl hk
    | 10, _ => rfl
    | 11, _ => rfl
    | 12, _ => simp only [cont, gI_s (show (0 : Nat) ≠ 10 by decide), gI_s (show (1 : Nat) ≠ 10 by decide), gI_s (show (2 : Nat) ≠ 10 by decide), gI_s (show (3 : Nat) ≠ 10 by decide), gI_s (show (4 : Nat) ≠ 10 by decide), gI_s (show (5 : Nat) ≠ 10 by decide), gI_s (show (6 : Nat) ≠ 10 by decide), gI_s (show (7 : Nat) ≠ 10 by decide)]
    | 13, _ => rfl
    | 14, _ => rfl
    | k + 15, _ => exact (cE_I (by decide) k).symm
theorem up_ST_firstColumn {v : Int32} : va_up (cont ad cs σ) 9 (.inr (3, [.ref (ad 10), .ref (ad 11), .int (gI σ 9), .int (gI σ 10), .int v, .int (gI σ 12)])) = cont ad cs (sI σ 11 v) := by
  refine up_of ?_ ?_
  · simp only [cont, gI_sI, gI_s (show (9 : Nat) ≠ 11 by decide), gI_s (show (10 : Nat) ≠ 11 by decide), gI_s (show (12 : Nat) ≠ 11 by decide)]
  · intro k hk
    match k, hk with
    | 0, _ => rfl
    | 1, _ => simp only [cont, gI_s (show (8 : Nat) ≠ 11 by decide)]
    | 2, _ => rfl
    | 3, _ => rfl
    | 4, _ => rfl
    | 5, _ => rfl
    | 6, _ => rfl
    | 7, _ => rfl
    | 8, _ => rfl
    | 9, hk => exact absurd rfl hk
    | 10, _ => rfl
    | 11, _ => rfl
    | 12, _ => simp only [cont, gI_s (show (0 : Nat) ≠ 11 by decide), gI_s (show (1 : Nat) ≠ 11 by decide), gI_s (show (2 : Nat) ≠ 11 by decide), gI_s (show (3 : Nat) ≠ 11 by decide), gI_s (show (4 : Nat) ≠ 11 by decide), gI_s (show (5 : Nat) ≠ 11 by decide), gI_s (show (6 : Nat) ≠ 11 by decide), gI_s (show (7 : Nat) ≠ 11 by decide)]
    | 13, _ => rfl
    | 14, _ => rfl
    | k + 15, _ => exact (cE_I (by decide) k).symm
theorem up_ST_lastColumn {v : Int32} : va_up (cont ad cs σ) 9 (.inr (3, [.ref (ad 10), .ref (ad 11), .int (gI σ 9), .int (gI σ 10), .int (gI σ 11), .int v])) = cont ad cs (sI σ 12 v) := by
  refine up_of ?_ ?_
  · simp only [cont, gI_sI, gI_s (show (9 : Nat) ≠ 12 by decide), gI_s (show (10 : Nat) ≠ 12 by decide), gI_s (show (11 : Nat) ≠ 12 by decide)]
  · intro k hk
    match k, hk with
    | 0, _ => rfl
    | 1, _ => simp only [cont, gI_s (show (8 : Nat) ≠ 12 by decide)]
    | 2, _ => rfl
    | 3, _ => rfl
    | 4, _ => rfl
    | 5, _ => rfl
    | 6, _ => rfl
    | 7, _ => rfl
    | 8, _ => rfl
    | 9, hk => exact absurd rfl hk
    | 10, _ => rfl
    | 11, _ => rfl
    | 12, _ => simp only [cont, gI_s (show (0 : Nat) ≠ 12 by decide), gI_s (show (1 : Nat) ≠ 12 by decide), gI_s (show (2 : Nat) ≠ 12 by decide), gI_s (show (3 : Nat) ≠ 12 by decide), gI_s (show (4 : Nat) ≠ 12 by decide), gI_s (show (5 : Nat) ≠ 12 by decide), gI_s (show (6 : Nat) ≠ 12 by decide), gI_s (show (7 : Nat) ≠ 12 by decide)]
    | 13, _ => rfl
    | 14, _ => rfl
    | k + 15, _ => exact (cE_I (by decide) k).symm
theorem up_WK_worked {v : Int32} : va_up (cont ad cs σ) 12 (.inr (4, [.int v, .int (gI σ 1), .int (gI σ 2), .int (gI σ 3), .int (gI σ 4), .ref (ad 1), .ref (ad 9), .ref (ad 23), .ref (ad 14), .ref (ad 13), .int (gI σ 5), .int (gI σ 6), .int (gI σ 7)])) = cont ad cs (sI σ 0 v) := by
  refine up_of ?_ ?_
  · simp only [cont, gI_sI, gI_s (show (1 : Nat) ≠ 0 by decide), gI_s (show (2 : Nat) ≠ 0 by decide), gI_s (show (3 : Nat) ≠ 0 by decide), gI_s (show (4 : Nat) ≠ 0 by decide), gI_s (show (5 : Nat) ≠ 0 by decide), gI_s (show (6 : Nat) ≠ 0 by decide), gI_s (show (7 : Nat) ≠ 0 by decide)]
  · intro k hk
    match k, hk with
    | 0, _ => rfl
    | 1, _ => simp only [cont, gI_s (show (8 : Nat) ≠ 0 by decide)]
    | 2, _ => rfl
    | 3, _ => rfl
    | 4, _ => rfl
    | 5, _ => rfl
    | 6, _ => rfl
    | 7, _ => rfl
    | 8, _ => rfl
    | 9, _ => simp only [cont, gI_s (show (9 : Nat) ≠ 0 by decide), gI_s (show (10 : Nat) ≠ 0 by decide), gI_s (show (11 : Nat) ≠ 0 by decide), gI_s (show (12 : Nat) ≠ 0 by decide)]
    | 10, _ => rfl
    | 11, _ => rfl
    | 12, hk => exact absurd rfl hk
    | 13, _ => rfl
    | 14, _ => rfl
    | k + 15, _ => exact (cE_I (by decide) k).symm
theorem up_WK_fault {v : Int32} : va_up (cont ad cs σ) 12 (.inr (4, [.int (gI σ 0), .int v, .int (gI σ 2), .int (gI σ 3), .int (gI σ 4), .ref (ad 1), .ref (ad 9), .ref (ad 23), .ref (ad 14), .ref (ad 13), .int (gI σ 5), .int (gI σ 6), .int (gI σ 7)])) = cont ad cs (sI σ 1 v) := by
  refine up_of ?_ ?_
  · simp only [cont, gI_sI, gI_s (show (0 : Nat) ≠ 1 by decide), gI_s (show (2 : Nat) ≠ 1 by decide), gI_s (show (3 : Nat) ≠ 1 by decide), gI_s (show (4 : Nat) ≠ 1 by decide), gI_s (show (5 : Nat) ≠ 1 by decide), gI_s (show (6 : Nat) ≠ 1 by decide), gI_s (show (7 : Nat) ≠ 1 by decide)]
  · intro k hk
    match k, hk with
    | 0, _ => rfl
    | 1, _ => simp only [cont, gI_s (show (8 : Nat) ≠ 1 by decide)]
    | 2, _ => rfl
    | 3, _ => rfl
    | 4, _ => rfl
    | 5, _ => rfl
    | 6, _ => rfl
    | 7, _ => rfl
    | 8, _ => rfl
    | 9, _ => simp only [cont, gI_s (show (9 : Nat) ≠ 1 by decide), gI_s (show (10 : Nat) ≠ 1 by decide), gI_s (show (11 : Nat) ≠ 1 by decide), gI_s (show (12 : Nat) ≠ 1 by decide)]
    | 10, _ => rfl
    | 11, _ => rfl
    | 12, hk => exact absurd rfl hk
    | 13, _ => rfl
    | 14, _ => rfl
    | k + 15, _ => exact (cE_I (by decide) k).symm
theorem up_WK_bodiesBegun {v : Int32} : va_up (cont ad cs σ) 12 (.inr (4, [.int (gI σ 0), .int (gI σ 1), .int v, .int (gI σ 3), .int (gI σ 4), .ref (ad 1), .ref (ad 9), .ref (ad 23), .ref (ad 14), .ref (ad 13), .int (gI σ 5), .int (gI σ 6), .int (gI σ 7)])) = cont ad cs (sI σ 2 v) := by
  refine up_of ?_ ?_
  · simp only [cont, gI_sI, gI_s (show (0 : Nat) ≠ 2 by decide), gI_s (show (1 : Nat) ≠ 2 by decide), gI_s (show (3 : Nat) ≠ 2 by decide), gI_s (show (4 : Nat) ≠ 2 by decide), gI_s (show (5 : Nat) ≠ 2 by decide), gI_s (show (6 : Nat) ≠ 2 by decide), gI_s (show (7 : Nat) ≠ 2 by decide)]
  · intro k hk
    match k, hk with
    | 0, _ => rfl
    | 1, _ => simp only [cont, gI_s (show (8 : Nat) ≠ 2 by decide)]
    | 2, _ => rfl
    | 3, _ => rfl
    | 4, _ => rfl
    | 5, _ => rfl
    | 6, _ => rfl
    | 7, _ => rfl
    | 8, _ => rfl
    | 9, _ => simp only [cont, gI_s (show (9 : Nat) ≠ 2 by decide), gI_s (show (10 : Nat) ≠ 2 by decide), gI_s (show (11 : Nat) ≠ 2 by decide), gI_s (show (12 : Nat) ≠ 2 by decide)]
    | 10, _ => rfl
    | 11, _ => rfl
    | 12, hk => exact absurd rfl hk
    | 13, _ => rfl
    | 14, _ => rfl
    | k + 15, _ => exact (cE_I (by decide) k).symm
theorem up_WK_mostEnvironments {v : Int32} : va_up (cont ad cs σ) 12 (.inr (4, [.int (gI σ 0), .int (gI σ 1), .int (gI σ 2), .int v, .int (gI σ 4), .ref (ad 1), .ref (ad 9), .ref (ad 23), .ref (ad 14), .ref (ad 13), .int (gI σ 5), .int (gI σ 6), .int (gI σ 7)])) = cont ad cs (sI σ 3 v) := by
  refine up_of ?_ ?_
  · simp only [cont, gI_sI, gI_s (show (0 : Nat) ≠ 3 by decide), gI_s (show (1 : Nat) ≠ 3 by decide), gI_s (show (2 : Nat) ≠ 3 by decide), gI_s (show (4 : Nat) ≠ 3 by decide), gI_s (show (5 : Nat) ≠ 3 by decide), gI_s (show (6 : Nat) ≠ 3 by decide), gI_s (show (7 : Nat) ≠ 3 by decide)]
  · intro k hk
    match k, hk with
    | 0, _ => rfl
    | 1, _ => simp only [cont, gI_s (show (8 : Nat) ≠ 3 by decide)]
    | 2, _ => rfl
    | 3, _ => rfl
    | 4, _ => rfl
    | 5, _ => rfl
    | 6, _ => rfl
    | 7, _ => rfl
    | 8, _ => rfl
    | 9, _ => simp only [cont, gI_s (show (9 : Nat) ≠ 3 by decide), gI_s (show (10 : Nat) ≠ 3 by decide), gI_s (show (11 : Nat) ≠ 3 by decide), gI_s (show (12 : Nat) ≠ 3 by decide)]
    | 10, _ => rfl
    | 11, _ => rfl
    | 12, hk => exact absurd rfl hk
    | 13, _ => rfl
    | 14, _ => rfl
    | k + 15, _ => exact (cE_I (by decide) k).symm
theorem up_WK_jumpsArrived {v : Int32} : va_up (cont ad cs σ) 12 (.inr (4, [.int (gI σ 0), .int (gI σ 1), .int (gI σ 2), .int (gI σ 3), .int v, .ref (ad 1), .ref (ad 9), .ref (ad 23), .ref (ad 14), .ref (ad 13), .int (gI σ 5), .int (gI σ 6), .int (gI σ 7)])) = cont ad cs (sI σ 4 v) := by
  refine up_of ?_ ?_
  · simp only [cont, gI_sI, gI_s (show (0 : Nat) ≠ 4 by decide), gI_s (show (1 : Nat) ≠ 4 by decide), gI_s (show (2 : Nat) ≠ 4 by decide), gI_s (show (3 : Nat) ≠ 4 by decide), gI_s (show (5 : Nat) ≠ 4 by decide), gI_s (show (6 : Nat) ≠ 4 by decide), gI_s (show (7 : Nat) ≠ 4 by decide)]
  · intro k hk
    match k, hk with
    | 0, _ => rfl
    | 1, _ => simp only [cont, gI_s (show (8 : Nat) ≠ 4 by decide)]
    | 2, _ => rfl
    | 3, _ => rfl
    | 4, _ => rfl
    | 5, _ => rfl
    | 6, _ => rfl
    | 7, _ => rfl
    | 8, _ => rfl
    | 9, _ => simp only [cont, gI_s (show (9 : Nat) ≠ 4 by decide), gI_s (show (10 : Nat) ≠ 4 by decide), gI_s (show (11 : Nat) ≠ 4 by decide), gI_s (show (12 : Nat) ≠ 4 by decide)]
    | 10, _ => rfl
    | 11, _ => rfl
    | 12, hk => exact absurd rfl hk
    | 13, _ => rfl
    | 14, _ => rfl
    | k + 15, _ => exact (cE_I (by decide) k).symm
theorem up_WK_openCalls {v : Int32} : va_up (cont ad cs σ) 12 (.inr (4, [.int (gI σ 0), .int (gI σ 1), .int (gI σ 2), .int (gI σ 3), .int (gI σ 4), .ref (ad 1), .ref (ad 9), .ref (ad 23), .ref (ad 14), .ref (ad 13), .int v, .int (gI σ 6), .int (gI σ 7)])) = cont ad cs (sI σ 5 v) := by
  refine up_of ?_ ?_
  · simp only [cont, gI_sI, gI_s (show (0 : Nat) ≠ 5 by decide), gI_s (show (1 : Nat) ≠ 5 by decide), gI_s (show (2 : Nat) ≠ 5 by decide), gI_s (show (3 : Nat) ≠ 5 by decide), gI_s (show (4 : Nat) ≠ 5 by decide), gI_s (show (6 : Nat) ≠ 5 by decide), gI_s (show (7 : Nat) ≠ 5 by decide)]
  · intro k hk
    match k, hk with
    | 0, _ => rfl
    | 1, _ => simp only [cont, gI_s (show (8 : Nat) ≠ 5 by decide)]
    | 2, _ => rfl
    | 3, _ => rfl
    | 4, _ => rfl
    | 5, _ => rfl
    | 6, _ => rfl
    | 7, _ => rfl
    | 8, _ => rfl
    | 9, _ => simp only [cont, gI_s (show (9 : Nat) ≠ 5 by decide), gI_s (show (10 : Nat) ≠ 5 by decide), gI_s (show (11 : Nat) ≠ 5 by decide), gI_s (show (12 : Nat) ≠ 5 by decide)]
    | 10, _ => rfl
    | 11, _ => rfl
    | 12, hk => exact absurd rfl hk
    | 13, _ => rfl
    | 14, _ => rfl
    | k + 15, _ => exact (cE_I (by decide) k).symm
theorem up_WK_openEnvironments {v : Int32} : va_up (cont ad cs σ) 12 (.inr (4, [.int (gI σ 0), .int (gI σ 1), .int (gI σ 2), .int (gI σ 3), .int (gI σ 4), .ref (ad 1), .ref (ad 9), .ref (ad 23), .ref (ad 14), .ref (ad 13), .int (gI σ 5), .int v, .int (gI σ 7)])) = cont ad cs (sI σ 6 v) := by
  refine up_of ?_ ?_
  · simp only [cont, gI_sI, gI_s (show (0 : Nat) ≠ 6 by decide), gI_s (show (1 : Nat) ≠ 6 by decide), gI_s (show (2 : Nat) ≠ 6 by decide), gI_s (show (3 : Nat) ≠ 6 by decide), gI_s (show (4 : Nat) ≠ 6 by decide), gI_s (show (5 : Nat) ≠ 6 by decide), gI_s (show (7 : Nat) ≠ 6 by decide)]
  · intro k hk
    match k, hk with
    | 0, _ => rfl
    | 1, _ => simp only [cont, gI_s (show (8 : Nat) ≠ 6 by decide)]
    | 2, _ => rfl
    | 3, _ => rfl
    | 4, _ => rfl
    | 5, _ => rfl
    | 6, _ => rfl
    | 7, _ => rfl
    | 8, _ => rfl
    | 9, _ => simp only [cont, gI_s (show (9 : Nat) ≠ 6 by decide), gI_s (show (10 : Nat) ≠ 6 by decide), gI_s (show (11 : Nat) ≠ 6 by decide), gI_s (show (12 : Nat) ≠ 6 by decide)]
    | 10, _ => rfl
    | 11, _ => rfl
    | 12, hk => exact absurd rfl hk
    | 13, _ => rfl
    | 14, _ => rfl
    | k + 15, _ => exact (cE_I (by decide) k).symm
theorem up_WK_jumpingTo {v : Int32} : va_up (cont ad cs σ) 12 (.inr (4, [.int (gI σ 0), .int (gI σ 1), .int (gI σ 2), .int (gI σ 3), .int (gI σ 4), .ref (ad 1), .ref (ad 9), .ref (ad 23), .ref (ad 14), .ref (ad 13), .int (gI σ 5), .int (gI σ 6), .int v])) = cont ad cs (sI σ 7 v) := by
  refine up_of ?_ ?_
  · simp only [cont, gI_sI, gI_s (show (0 : Nat) ≠ 7 by decide), gI_s (show (1 : Nat) ≠ 7 by decide), gI_s (show (2 : Nat) ≠ 7 by decide), gI_s (show (3 : Nat) ≠ 7 by decide), gI_s (show (4 : Nat) ≠ 7 by decide), gI_s (show (5 : Nat) ≠ 7 by decide), gI_s (show (6 : Nat) ≠ 7 by decide)]
  · intro k hk
    match k, hk with
    | 0, _ => rfl
    | 1, _ => simp only [cont, gI_s (show (8 : Nat) ≠ 7 by decide)]
    | 2, _ => rfl
    | 3, _ => rfl
    | 4, _ => rfl
    | 5, _ => rfl
    | 6, _ => rfl
    | 7, _ => rfl
    | 8, _ => rfl
    | 9, _ => simp only [cont, gI_s (show (9 : Nat) ≠ 7 by decide), gI_s (show (10 : Nat) ≠ 7 by decide), gI_s (show (11 : Nat) ≠ 7 by decide), gI_s (show (12 : Nat) ≠ 7 by decide)]
    | 10, _ => rfl
    | 11, _ => rfl
    | 12, hk => exact absurd rfl hk
    | 13, _ => rfl
    | 14, _ => rfl
    | k + 15, _ => exact (cE_I (by decide) k).symm
theorem upa_0 {f : Nat → Int32} : va_up (cont ad cs σ) 2 (.inl (cs.1, 48, .inl f)) = cont ad cs (sA σ 0 f) := by
  refine up_of ?_ ?_
  · simp only [cont, gA_sA]
  · intro k hk
    match k, hk with
    | 0, _ => rfl
    | 1, _ => rfl
    | 2, hk => exact absurd rfl hk
    | 3, _ => simp only [cont, gA_s (show (1 : Nat) ≠ 0 by decide)]
    | 4, _ => simp only [cont, gA_s (show (2 : Nat) ≠ 0 by decide)]
    | 5, _ => simp only [cont, gA_s (show (3 : Nat) ≠ 0 by decide)]
    | 6, _ => simp only [cont, gA_s (show (4 : Nat) ≠ 0 by decide)]
    | 7, _ => simp only [cont, gA_s (show (5 : Nat) ≠ 0 by decide)]
    | 8, _ => simp only [cont, gA_s (show (6 : Nat) ≠ 0 by decide)]
    | 9, _ => rfl
    | 10, _ => rfl
    | 11, _ => rfl
    | 12, _ => rfl
    | 13, _ => simp only [cont, gA_s (show (7 : Nat) ≠ 0 by decide)]
    | 14, _ => rfl
    | k + 15, _ => exact (cE_A (by decide) k).symm
theorem upa_1 {f : Nat → Int32} : va_up (cont ad cs σ) 3 (.inl (cs.1, 48, .inl f)) = cont ad cs (sA σ 1 f) := by
  refine up_of ?_ ?_
  · simp only [cont, gA_sA]
  · intro k hk
    match k, hk with
    | 0, _ => rfl
    | 1, _ => rfl
    | 2, _ => simp only [cont, gA_s (show (0 : Nat) ≠ 1 by decide)]
    | 3, hk => exact absurd rfl hk
    | 4, _ => simp only [cont, gA_s (show (2 : Nat) ≠ 1 by decide)]
    | 5, _ => simp only [cont, gA_s (show (3 : Nat) ≠ 1 by decide)]
    | 6, _ => simp only [cont, gA_s (show (4 : Nat) ≠ 1 by decide)]
    | 7, _ => simp only [cont, gA_s (show (5 : Nat) ≠ 1 by decide)]
    | 8, _ => simp only [cont, gA_s (show (6 : Nat) ≠ 1 by decide)]
    | 9, _ => rfl
    | 10, _ => rfl
    | 11, _ => rfl
    | 12, _ => rfl
    | 13, _ => simp only [cont, gA_s (show (7 : Nat) ≠ 1 by decide)]
    | 14, _ => rfl
    | k + 15, _ => exact (cE_A (by decide) k).symm
theorem upa_2 {f : Nat → Int32} : va_up (cont ad cs σ) 4 (.inl (cs.1, 48, .inl f)) = cont ad cs (sA σ 2 f) := by
  refine up_of ?_ ?_
  · simp only [cont, gA_sA]
  · intro k hk
    match k, hk with
    | 0, _ => rfl
    | 1, _ => rfl
    | 2, _ => simp only [cont, gA_s (show (0 : Nat) ≠ 2 by decide)]
    | 3, _ => simp only [cont, gA_s (show (1 : Nat) ≠ 2 by decide)]
    | 4, hk => exact absurd rfl hk
    | 5, _ => simp only [cont, gA_s (show (3 : Nat) ≠ 2 by decide)]
    | 6, _ => simp only [cont, gA_s (show (4 : Nat) ≠ 2 by decide)]
    | 7, _ => simp only [cont, gA_s (show (5 : Nat) ≠ 2 by decide)]
    | 8, _ => simp only [cont, gA_s (show (6 : Nat) ≠ 2 by decide)]
    | 9, _ => rfl
    | 10, _ => rfl
    | 11, _ => rfl
    | 12, _ => rfl
    | 13, _ => simp only [cont, gA_s (show (7 : Nat) ≠ 2 by decide)]
    | 14, _ => rfl
    | k + 15, _ => exact (cE_A (by decide) k).symm
theorem upa_3 {f : Nat → Int32} : va_up (cont ad cs σ) 5 (.inl (cs.1, 48, .inl f)) = cont ad cs (sA σ 3 f) := by
  refine up_of ?_ ?_
  · simp only [cont, gA_sA]
  · intro k hk
    match k, hk with
    | 0, _ => rfl
    | 1, _ => rfl
    | 2, _ => simp only [cont, gA_s (show (0 : Nat) ≠ 3 by decide)]
    | 3, _ => simp only [cont, gA_s (show (1 : Nat) ≠ 3 by decide)]
    | 4, _ => simp only [cont, gA_s (show (2 : Nat) ≠ 3 by decide)]
    | 5, hk => exact absurd rfl hk
    | 6, _ => simp only [cont, gA_s (show (4 : Nat) ≠ 3 by decide)]
    | 7, _ => simp only [cont, gA_s (show (5 : Nat) ≠ 3 by decide)]
    | 8, _ => simp only [cont, gA_s (show (6 : Nat) ≠ 3 by decide)]
    | 9, _ => rfl
    | 10, _ => rfl
    | 11, _ => rfl
    | 12, _ => rfl
    | 13, _ => simp only [cont, gA_s (show (7 : Nat) ≠ 3 by decide)]
    | 14, _ => rfl
    | k + 15, _ => exact (cE_A (by decide) k).symm
theorem upa_4 {f : Nat → Int32} : va_up (cont ad cs σ) 6 (.inl (cs.1, 4, .inl f)) = cont ad cs (sA σ 4 f) := by
  refine up_of ?_ ?_
  · simp only [cont, gA_sA]
  · intro k hk
    match k, hk with
    | 0, _ => rfl
    | 1, _ => rfl
    | 2, _ => simp only [cont, gA_s (show (0 : Nat) ≠ 4 by decide)]
    | 3, _ => simp only [cont, gA_s (show (1 : Nat) ≠ 4 by decide)]
    | 4, _ => simp only [cont, gA_s (show (2 : Nat) ≠ 4 by decide)]
    | 5, _ => simp only [cont, gA_s (show (3 : Nat) ≠ 4 by decide)]
    | 6, hk => exact absurd rfl hk
    | 7, _ => simp only [cont, gA_s (show (5 : Nat) ≠ 4 by decide)]
    | 8, _ => simp only [cont, gA_s (show (6 : Nat) ≠ 4 by decide)]
    | 9, _ => rfl
    | 10, _ => rfl
    | 11, _ => rfl
    | 12, _ => rfl
    | 13, _ => simp only [cont, gA_s (show (7 : Nat) ≠ 4 by decide)]
    | 14, _ => rfl
    | k + 15, _ => exact (cE_A (by decide) k).symm
theorem upa_5 {f : Nat → Int32} : va_up (cont ad cs σ) 7 (.inl (cs.1, 4, .inl f)) = cont ad cs (sA σ 5 f) := by
  refine up_of ?_ ?_
  · simp only [cont, gA_sA]
  · intro k hk
    match k, hk with
    | 0, _ => rfl
    | 1, _ => rfl
    | 2, _ => simp only [cont, gA_s (show (0 : Nat) ≠ 5 by decide)]
    | 3, _ => simp only [cont, gA_s (show (1 : Nat) ≠ 5 by decide)]
    | 4, _ => simp only [cont, gA_s (show (2 : Nat) ≠ 5 by decide)]
    | 5, _ => simp only [cont, gA_s (show (3 : Nat) ≠ 5 by decide)]
    | 6, _ => simp only [cont, gA_s (show (4 : Nat) ≠ 5 by decide)]
    | 7, hk => exact absurd rfl hk
    | 8, _ => simp only [cont, gA_s (show (6 : Nat) ≠ 5 by decide)]
    | 9, _ => rfl
    | 10, _ => rfl
    | 11, _ => rfl
    | 12, _ => rfl
    | 13, _ => simp only [cont, gA_s (show (7 : Nat) ≠ 5 by decide)]
    | 14, _ => rfl
    | k + 15, _ => exact (cE_A (by decide) k).symm
theorem upa_6 {f : Nat → Int32} : va_up (cont ad cs σ) 8 (.inl (cs.1, 4, .inl f)) = cont ad cs (sA σ 6 f) := by
  refine up_of ?_ ?_
  · simp only [cont, gA_sA]
  · intro k hk
    match k, hk with
    | 0, _ => rfl
    | 1, _ => rfl
    | 2, _ => simp only [cont, gA_s (show (0 : Nat) ≠ 6 by decide)]
    | 3, _ => simp only [cont, gA_s (show (1 : Nat) ≠ 6 by decide)]
    | 4, _ => simp only [cont, gA_s (show (2 : Nat) ≠ 6 by decide)]
    | 5, _ => simp only [cont, gA_s (show (3 : Nat) ≠ 6 by decide)]
    | 6, _ => simp only [cont, gA_s (show (4 : Nat) ≠ 6 by decide)]
    | 7, _ => simp only [cont, gA_s (show (5 : Nat) ≠ 6 by decide)]
    | 8, hk => exact absurd rfl hk
    | 9, _ => rfl
    | 10, _ => rfl
    | 11, _ => rfl
    | 12, _ => rfl
    | 13, _ => simp only [cont, gA_s (show (7 : Nat) ≠ 6 by decide)]
    | 14, _ => rfl
    | k + 15, _ => exact (cE_A (by decide) k).symm
theorem upd_0 {f : Nat → UInt64} : va_up (cont ad cs σ) 10 (.inl (cs.2.1, 8, .inr (.inr (.inr (.inl f))))) = cont ad cs (sD σ 0 f) := by
  refine up_of ?_ ?_
  · simp only [cont, gD_sD]
  · intro k hk
    match k, hk with
    | 0, _ => rfl
    | 1, _ => rfl
    | 2, _ => rfl
    | 3, _ => rfl
    | 4, _ => rfl
    | 5, _ => rfl
    | 6, _ => rfl
    | 7, _ => rfl
    | 8, _ => rfl
    | 9, _ => rfl
    | 10, hk => exact absurd rfl hk
    | 11, _ => simp only [cont, gD_s (show (1 : Nat) ≠ 0 by decide)]
    | 12, _ => rfl
    | 13, _ => rfl
    | 14, _ => rfl
    | k + 15, _ => exact (cE_D (by decide) k).symm
theorem upd_1 {f : Nat → UInt64} : va_up (cont ad cs σ) 11 (.inl (cs.2.1, 25, .inr (.inr (.inr (.inl f))))) = cont ad cs (sD σ 1 f) := by
  refine up_of ?_ ?_
  · simp only [cont, gD_sD]
  · intro k hk
    match k, hk with
    | 0, _ => rfl
    | 1, _ => rfl
    | 2, _ => rfl
    | 3, _ => rfl
    | 4, _ => rfl
    | 5, _ => rfl
    | 6, _ => rfl
    | 7, _ => rfl
    | 8, _ => rfl
    | 9, _ => rfl
    | 10, _ => simp only [cont, gD_s (show (0 : Nat) ≠ 1 by decide)]
    | 11, hk => exact absurd rfl hk
    | 12, _ => rfl
    | 13, _ => rfl
    | 14, _ => rfl
    | k + 15, _ => exact (cE_D (by decide) k).symm
theorem upa_7 {f : Nat → Int32} : va_up (cont ad cs σ) 13 (.inl (cs.1, 4, .inl f)) = cont ad cs (sA σ 7 f) := by
  refine up_of ?_ ?_
  · simp only [cont, gA_sA]
  · intro k hk
    match k, hk with
    | 0, _ => rfl
    | 1, _ => rfl
    | 2, _ => simp only [cont, gA_s (show (0 : Nat) ≠ 7 by decide)]
    | 3, _ => simp only [cont, gA_s (show (1 : Nat) ≠ 7 by decide)]
    | 4, _ => simp only [cont, gA_s (show (2 : Nat) ≠ 7 by decide)]
    | 5, _ => simp only [cont, gA_s (show (3 : Nat) ≠ 7 by decide)]
    | 6, _ => simp only [cont, gA_s (show (4 : Nat) ≠ 7 by decide)]
    | 7, _ => simp only [cont, gA_s (show (5 : Nat) ≠ 7 by decide)]
    | 8, _ => simp only [cont, gA_s (show (6 : Nat) ≠ 7 by decide)]
    | 9, _ => rfl
    | 10, _ => rfl
    | 11, _ => rfl
    | 12, _ => rfl
    | 13, hk => exact absurd rfl hk
    | 14, _ => rfl
    | k + 15, _ => exact (cE_A (by decide) k).symm
theorem up_EN_parameters {v : Int32} (hh : h < 9) : va_up (cont ad cs σ) (15 + h) (.inr (1, [cv ad (gC σ h), .ref (ad (24 + h)), .ref (ad (33 + h)), .ref (ad (42 + h)), .int v, .int (gI σ (30 + h))])) = cont ad cs (sI σ (20 + h) v) := by
  refine up_of ?_ ?_
  · rw [ct_o hh, gI_sI, gI_s (show 30 + h ≠ 20 + h by omega)]; rfl
  · intro k hk
    match k, hk with
    | 0, _ => rfl
    | 1, _ => simp only [cont, gI_s (show (8 : Nat) ≠ 20 + h by omega)]
    | 2, _ => rfl
    | 3, _ => rfl
    | 4, _ => rfl
    | 5, _ => rfl
    | 6, _ => rfl
    | 7, _ => rfl
    | 8, _ => rfl
    | 9, _ => simp only [cont, gI_s (show (9 : Nat) ≠ 20 + h by omega), gI_s (show (10 : Nat) ≠ 20 + h by omega), gI_s (show (11 : Nat) ≠ 20 + h by omega), gI_s (show (12 : Nat) ≠ 20 + h by omega)]
    | 10, _ => rfl
    | 11, _ => rfl
    | 12, _ => simp only [cont, gI_s (show (0 : Nat) ≠ 20 + h by omega), gI_s (show (1 : Nat) ≠ 20 + h by omega), gI_s (show (2 : Nat) ≠ 20 + h by omega), gI_s (show (3 : Nat) ≠ 20 + h by omega), gI_s (show (4 : Nat) ≠ 20 + h by omega), gI_s (show (5 : Nat) ≠ 20 + h by omega), gI_s (show (6 : Nat) ≠ 20 + h by omega), gI_s (show (7 : Nat) ≠ 20 + h by omega)]
    | 13, _ => rfl
    | 14, _ => rfl
    | k + 15, hk =>
      show contE ad cs σ k = contE ad cs (sI σ (20 + h) v) k
      unfold contE
      by_cases hk9 : k < 9
      · rw [if_pos hk9, if_pos hk9, gI_s (show 20 + k ≠ 20 + h by omega), gI_s (show 30 + k ≠ 20 + h by omega)]; rfl
      · rw [if_neg hk9, if_neg hk9]; rfl
theorem up_EN_names {v : Int32} (hh : h < 9) : va_up (cont ad cs σ) (15 + h) (.inr (1, [cv ad (gC σ h), .ref (ad (24 + h)), .ref (ad (33 + h)), .ref (ad (42 + h)), .int (gI σ (20 + h)), .int v])) = cont ad cs (sI σ (30 + h) v) := by
  refine up_of ?_ ?_
  · rw [ct_o hh, gI_sI, gI_s (show 20 + h ≠ 30 + h by omega)]; rfl
  · intro k hk
    match k, hk with
    | 0, _ => rfl
    | 1, _ => simp only [cont, gI_s (show (8 : Nat) ≠ 30 + h by omega)]
    | 2, _ => rfl
    | 3, _ => rfl
    | 4, _ => rfl
    | 5, _ => rfl
    | 6, _ => rfl
    | 7, _ => rfl
    | 8, _ => rfl
    | 9, _ => simp only [cont, gI_s (show (9 : Nat) ≠ 30 + h by omega), gI_s (show (10 : Nat) ≠ 30 + h by omega), gI_s (show (11 : Nat) ≠ 30 + h by omega), gI_s (show (12 : Nat) ≠ 30 + h by omega)]
    | 10, _ => rfl
    | 11, _ => rfl
    | 12, _ => simp only [cont, gI_s (show (0 : Nat) ≠ 30 + h by omega), gI_s (show (1 : Nat) ≠ 30 + h by omega), gI_s (show (2 : Nat) ≠ 30 + h by omega), gI_s (show (3 : Nat) ≠ 30 + h by omega), gI_s (show (4 : Nat) ≠ 30 + h by omega), gI_s (show (5 : Nat) ≠ 30 + h by omega), gI_s (show (6 : Nat) ≠ 30 + h by omega), gI_s (show (7 : Nat) ≠ 30 + h by omega)]
    | 13, _ => rfl
    | 14, _ => rfl
    | k + 15, hk =>
      show contE ad cs σ k = contE ad cs (sI σ (30 + h) v) k
      unfold contE
      by_cases hk9 : k < 9
      · rw [if_pos hk9, if_pos hk9, gI_s (show 20 + k ≠ 30 + h by omega), gI_s (show 30 + k ≠ 30 + h by omega)]; rfl
      · rw [if_neg hk9, if_neg hk9]; rfl
theorem up_EN_caller {v : Option Nat} (hh : h < 9) : va_up (cont ad cs σ) (15 + h) (.inr (1, [cv ad v, .ref (ad (24 + h)), .ref (ad (33 + h)), .ref (ad (42 + h)), .int (gI σ (20 + h)), .int (gI σ (30 + h))])) = cont ad cs (sC σ h v) := by
  refine up_of ?_ ?_
  · rw [ct_o hh, gC_sC]; rfl
  · intro k hk
    match k, hk with
    | 0, _ => rfl
    | 1, _ => rfl
    | 2, _ => rfl
    | 3, _ => rfl
    | 4, _ => rfl
    | 5, _ => rfl
    | 6, _ => rfl
    | 7, _ => rfl
    | 8, _ => rfl
    | 9, _ => rfl
    | 10, _ => rfl
    | 11, _ => rfl
    | 12, _ => rfl
    | 13, _ => rfl
    | 14, _ => rfl
    | k + 15, hk =>
      show contE ad cs σ k = contE ad cs (sC σ h v) k
      unfold contE
      rw [gC_s (show k ≠ h by omega)]
      rfl
theorem upa_10 {f : Nat → Int32} (hh : h < 9) : va_up (cont ad cs σ) (24 + h) (.inl (cs.1, 2, .inl f)) = cont ad cs (sA σ (10 + h) f) := by
  refine up_of ?_ ?_
  · rw [ct_g hh, gA_sA]
  · intro k hk
    match k, hk with
    | 0, _ => rfl
    | 1, _ => rfl
    | 2, _ => simp only [cont, gA_s (show (0 : Nat) ≠ 10 + h by omega)]
    | 3, _ => simp only [cont, gA_s (show (1 : Nat) ≠ 10 + h by omega)]
    | 4, _ => simp only [cont, gA_s (show (2 : Nat) ≠ 10 + h by omega)]
    | 5, _ => simp only [cont, gA_s (show (3 : Nat) ≠ 10 + h by omega)]
    | 6, _ => simp only [cont, gA_s (show (4 : Nat) ≠ 10 + h by omega)]
    | 7, _ => simp only [cont, gA_s (show (5 : Nat) ≠ 10 + h by omega)]
    | 8, _ => simp only [cont, gA_s (show (6 : Nat) ≠ 10 + h by omega)]
    | 9, _ => rfl
    | 10, _ => rfl
    | 11, _ => rfl
    | 12, _ => rfl
    | 13, _ => simp only [cont, gA_s (show (7 : Nat) ≠ 10 + h by omega)]
    | 14, _ => rfl
    | k + 15, hk =>
      show contE ad cs σ k = contE ad cs (sA σ (10 + h) f) k
      unfold contE
      by_cases h1 : k < 9
      · rw [if_pos h1, if_pos h1]; rfl
      by_cases h2 : k < 18
      · rw [gA_s (show 10 + (k - 9) ≠ 10 + h by omega)]; rfl
      · rw [if_neg h1, if_neg h1, if_neg h2, if_neg h2]; rfl
theorem upd_10 {f : Nat → UInt64} (hh : h < 9) : va_up (cont ad cs σ) (33 + h) (.inl (cs.2.1, 2, .inr (.inr (.inr (.inl f))))) = cont ad cs (sD σ (10 + h) f) := by
  refine up_of ?_ ?_
  · rw [ct_v hh, gD_sD]
  · intro k hk
    match k, hk with
    | 0, _ => rfl
    | 1, _ => rfl
    | 2, _ => rfl
    | 3, _ => rfl
    | 4, _ => rfl
    | 5, _ => rfl
    | 6, _ => rfl
    | 7, _ => rfl
    | 8, _ => rfl
    | 9, _ => rfl
    | 10, _ => simp only [cont, gD_s (show (0 : Nat) ≠ 10 + h by omega)]
    | 11, _ => simp only [cont, gD_s (show (1 : Nat) ≠ 10 + h by omega)]
    | 12, _ => rfl
    | 13, _ => rfl
    | 14, _ => rfl
    | k + 15, hk =>
      show contE ad cs σ k = contE ad cs (sD σ (10 + h) f) k
      unfold contE
      by_cases h1 : k < 9
      · rw [if_pos h1, if_pos h1]; rfl
      by_cases h2 : k < 18
      · rw [if_neg h1, if_neg h1, if_pos h2, if_pos h2]; rfl
      by_cases h3 : k < 27
      · rw [if_neg h1, if_neg h1, if_neg h2, if_neg h2, if_pos h3, if_pos h3, gD_s (show 10 + (k - 18) ≠ 10 + h by omega)]
      · rw [if_neg h1, if_neg h1, if_neg h2, if_neg h2, if_neg h3, if_neg h3, gD_s (show 20 + (k - 27) ≠ 10 + h by omega)]
theorem upd_20 {f : Nat → UInt64} (hh : h < 9) : va_up (cont ad cs σ) (42 + h) (.inl (cs.2.1, 2, .inr (.inr (.inr (.inl f))))) = cont ad cs (sD σ (20 + h) f) := by
  refine up_of ?_ ?_
  · rw [ct_l hh, gD_sD]
  · intro k hk
    match k, hk with
    | 0, _ => rfl
    | 1, _ => rfl
    | 2, _ => rfl
    | 3, _ => rfl
    | 4, _ => rfl
    | 5, _ => rfl
    | 6, _ => rfl
    | 7, _ => rfl
    | 8, _ => rfl
    | 9, _ => rfl
    | 10, _ => simp only [cont, gD_s (show (0 : Nat) ≠ 20 + h by omega)]
    | 11, _ => simp only [cont, gD_s (show (1 : Nat) ≠ 20 + h by omega)]
    | 12, _ => rfl
    | 13, _ => rfl
    | 14, _ => rfl
    | k + 15, hk =>
      show contE ad cs σ k = contE ad cs (sD σ (20 + h) f) k
      unfold contE
      by_cases h1 : k < 9
      · rw [if_pos h1, if_pos h1]; rfl
      by_cases h2 : k < 18
      · rw [if_neg h1, if_neg h1, if_pos h2, if_pos h2]; rfl
      by_cases h3 : k < 27
      · rw [if_neg h1, if_neg h1, if_neg h2, if_neg h2, if_pos h3, if_pos h3, gD_s (show 10 + (k - 18) ≠ 20 + h by omega)]
      · rw [if_neg h1, if_neg h1, if_neg h2, if_neg h2, if_neg h3, if_neg h3, gD_s (show 20 + (k - 27) ≠ 20 + h by omega)]
end CT
