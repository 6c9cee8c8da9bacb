/-! The reference's state and cells -/
def contM (am : Nat → Nat) (cs : CI) (σ : CS) : Nat → va_E
  | 0 => .inr (5, [.ref (am 1), .ref (am 2), .ref (am 3), .ref (am 4), .ref (am 5), .ref (am 6), .ref (am 7), .ref (am 8), .ref (am 9), .int (gI σ 0), .int (gI σ 1), .int (gI σ 2), .int (gI σ 3), .int (gI σ 4), .int (gI σ 5), .ref (am 10), .ref (am 11), .ref (am 12), .ref (am 13), .ref (am 14), .ref (am 15), .int (gI σ 6), .int (gI σ 7), .ref (am 16), .ref (am 17), .ref (am 18), .ref (am 19), .ref (am 20), .ref (am 21), .ref (am 22), .ref (am 23), .ref (am 24), .int (gI σ 8), .int (gI σ 9), .int (gI σ 10), .int (gI σ 11), .int (gI σ 12), .int (gI σ 13), .double (gX σ 0)])
  | 1 => .inl (cs.1, 48, .inl (gA σ 0))
  | 2 => .inl (cs.1, 48, .inl (gA σ 1))
  | 3 => .inl (cs.1, 48, .inl (gA σ 2))
  | 4 => .inl (cs.1, 48, .inl (gA σ 3))
  | 5 => .inl (cs.1, 4, .inl (gA σ 4))
  | 6 => .inl (cs.1, 4, .inl (gA σ 5))
  | 7 => .inl (cs.1, 4, .inl (gA σ 6))
  | 8 => .inl (cs.2.1, 8, .inr (.inr (.inr (.inl (gD σ 0)))))
  | 9 => .inl (cs.2.1, 25, .inr (.inr (.inr (.inl (gD σ 1)))))
  | 10 => .inl (cs.1, 20, .inl (gA σ 7))
  | 11 => .inl (cs.1, 20, .inl (gA σ 8))
  | 12 => .inl (cs.1, 10, .inl (gA σ 9))
  | 13 => .inl (cs.1, 10, .inl (gA σ 10))
  | 14 => .inl (cs.2.1, 20, .inr (.inr (.inr (.inl (gD σ 2)))))
  | 15 => .inl (cs.2.1, 20, .inr (.inr (.inr (.inl (gD σ 3)))))
  | 16 => .inl (cs.1, 310, .inl (gA σ 11))
  | 17 => .inl (cs.1, 310, .inl (gA σ 12))
  | 18 => .inl (cs.1, 310, .inl (gA σ 13))
  | 19 => .inl (cs.1, 310, .inl (gA σ 14))
  | 20 => .inl (cs.1, 310, .inl (gA σ 15))
  | 21 => .inl (cs.1, 310, .inl (gA σ 16))
  | 22 => .inl (cs.1, 310, .inl (gA σ 17))
  | 23 => .inl (cs.2.1, 310, .inr (.inr (.inr (.inl (gD σ 4)))))
  | 24 => .inl (cs.2.1, 310, .inr (.inr (.inr (.inl (gD σ 5)))))
  | _ + 25 => .inl (cs.1, 0, .inl (fun _ => 0))
section CM
variable {am : Nat → Nat} {cs : CI} {σ : CS}
theorem upm_of {σ' : CS} {c : Nat} {e : va_E} (h1 : contM am cs σ' c = e) (h2 : ∀ k, k ≠ c → contM am cs σ k = contM am cs σ' k) : va_up (contM am cs σ) c e = contM am cs σ' := by
  funext k
  by_cases hk : k = c
  · subst hk
    rw [va_up_self, h1]
  · rw [va_up_ne _ _ hk, h2 k hk]
theorem up_MO_many {v : Int32} : va_up (contM am cs σ) 0 (.inr (5, [.ref (am 1), .ref (am 2), .ref (am 3), .ref (am 4), .ref (am 5), .ref (am 6), .ref (am 7), .ref (am 8), .ref (am 9), .int v, .int (gI σ 1), .int (gI σ 2), .int (gI σ 3), .int (gI σ 4), .int (gI σ 5), .ref (am 10), .ref (am 11), .ref (am 12), .ref (am 13), .ref (am 14), .ref (am 15), .int (gI σ 6), .int (gI σ 7), .ref (am 16), .ref (am 17), .ref (am 18), .ref (am 19), .ref (am 20), .ref (am 21), .ref (am 22), .ref (am 23), .ref (am 24), .int (gI σ 8), .int (gI σ 9), .int (gI σ 10), .int (gI σ 11), .int (gI σ 12), .int (gI σ 13), .double (gX σ 0)])) = contM am cs (sI σ 0 v) := by
  refine upm_of ?_ ?_
  · simp only [contM, gI_sI, gI_s (show (1 : Nat) ≠ 0 by decide), gI_s (show (2 : Nat) ≠ 0 by decide), gI_s (show (3 : Nat) ≠ 0 by decide), gI_s (show (4 : Nat) ≠ 0 by decide), gI_s (show (5 : Nat) ≠ 0 by decide), gI_s (show (6 : Nat) ≠ 0 by decide), gI_s (show (7 : Nat) ≠ 0 by decide), gI_s (show (8 : Nat) ≠ 0 by decide), gI_s (show (9 : Nat) ≠ 0 by decide), gI_s (show (10 : Nat) ≠ 0 by decide), gI_s (show (11 : Nat) ≠ 0 by decide), gI_s (show (12 : Nat) ≠ 0 by decide), gI_s (show (13 : Nat) ≠ 0 by decide), gX_sI]
  · intro k hk
    match k, hk with
    | 0, hk => exact absurd rfl hk
    | 1, _ => rfl
    | 2, _ => rfl
    | 3, _ => rfl
    | 4, _ => rfl
    | 5, _ => rfl
    | 6, _ => rfl
    | 7, _ => rfl
    | 8, _ => rfl
    | 9, _ => rfl
    | 10, _ => rfl
    | 11, _ => rfl
    | 12, _ => rfl
    | 13, _ => rfl
    | 14, _ => rfl
    | 15, _ => rfl
    | 16, _ => rfl
    | 17, _ => rfl
    | 18, _ => rfl
    | 19, _ => rfl
    | 20, _ => rfl
    | 21, _ => rfl
    | 22, _ => rfl
    | 23, _ => rfl
    | 24, _ => rfl
    | _ + 25, _ => rfl
theorem up_MO_low {v : Int32} : va_up (contM am cs σ) 0 (.inr (5, [.ref (am 1), .ref (am 2), .ref (am 3), .ref (am 4), .ref (am 5), .ref (am 6), .ref (am 7), .ref (am 8), .ref (am 9), .int (gI σ 0), .int v, .int (gI σ 2), .int (gI σ 3), .int (gI σ 4), .int (gI σ 5), .ref (am 10), .ref (am 11), .ref (am 12), .ref (am 13), .ref (am 14), .ref (am 15), .int (gI σ 6), .int (gI σ 7), .ref (am 16), .ref (am 17), .ref (am 18), .ref (am 19), .ref (am 20), .ref (am 21), .ref (am 22), .ref (am 23), .ref (am 24), .int (gI σ 8), .int (gI σ 9), .int (gI σ 10), .int (gI σ 11), .int (gI σ 12), .int (gI σ 13), .double (gX σ 0)])) = contM am cs (sI σ 1 v) := by
  refine upm_of ?_ ?_
  · simp only [contM, gI_sI, gI_s (show (0 : Nat) ≠ 1 by decide), gI_s (show (2 : Nat) ≠ 1 by decide), gI_s (show (3 : Nat) ≠ 1 by decide), gI_s (show (4 : Nat) ≠ 1 by decide), gI_s (show (5 : Nat) ≠ 1 by decide), gI_s (show (6 : Nat) ≠ 1 by decide), gI_s (show (7 : Nat) ≠ 1 by decide), gI_s (show (8 : Nat) ≠ 1 by decide), gI_s (show (9 : Nat) ≠ 1 by decide), gI_s (show (10 : Nat) ≠ 1 by decide), gI_s (show (11 : Nat) ≠ 1 by decide), gI_s (show (12 : Nat) ≠ 1 by decide), gI_s (show (13 : Nat) ≠ 1 by decide), gX_sI]
  · intro k hk
    match k, hk with
    | 0, hk => exact absurd rfl hk
    | 1, _ => rfl
    | 2, _ => rfl
    | 3, _ => rfl
    | 4, _ => rfl
    | 5, _ => rfl
    | 6, _ => rfl
    | 7, _ => rfl
    | 8, _ => rfl
    | 9, _ => rfl
    | 10, _ => rfl
    | 11, _ => rfl
    | 12, _ => rfl
    | 13, _ => rfl
    | 14, _ => rfl
    | 15, _ => rfl
    | 16, _ => rfl
    | 17, _ => rfl
    | 18, _ => rfl
    | 19, _ => rfl
    | 20, _ => rfl
    | 21, _ => rfl
    | 22, _ => rfl
    | 23, _ => rfl
    | 24, _ => rfl
    | _ + 25, _ => rfl
theorem up_MO_high {v : Int32} : va_up (contM am cs σ) 0 (.inr (5, [.ref (am 1), .ref (am 2), .ref (am 3), .ref (am 4), .ref (am 5), .ref (am 6), .ref (am 7), .ref (am 8), .ref (am 9), .int (gI σ 0), .int (gI σ 1), .int v, .int (gI σ 3), .int (gI σ 4), .int (gI σ 5), .ref (am 10), .ref (am 11), .ref (am 12), .ref (am 13), .ref (am 14), .ref (am 15), .int (gI σ 6), .int (gI σ 7), .ref (am 16), .ref (am 17), .ref (am 18), .ref (am 19), .ref (am 20), .ref (am 21), .ref (am 22), .ref (am 23), .ref (am 24), .int (gI σ 8), .int (gI σ 9), .int (gI σ 10), .int (gI σ 11), .int (gI σ 12), .int (gI σ 13), .double (gX σ 0)])) = contM am cs (sI σ 2 v) := by
  refine upm_of ?_ ?_
  · simp only [contM, gI_sI, gI_s (show (0 : Nat) ≠ 2 by decide), gI_s (show (1 : Nat) ≠ 2 by decide), gI_s (show (3 : Nat) ≠ 2 by decide), gI_s (show (4 : Nat) ≠ 2 by decide), gI_s (show (5 : Nat) ≠ 2 by decide), gI_s (show (6 : Nat) ≠ 2 by decide), gI_s (show (7 : Nat) ≠ 2 by decide), gI_s (show (8 : Nat) ≠ 2 by decide), gI_s (show (9 : Nat) ≠ 2 by decide), gI_s (show (10 : Nat) ≠ 2 by decide), gI_s (show (11 : Nat) ≠ 2 by decide), gI_s (show (12 : Nat) ≠ 2 by decide), gI_s (show (13 : Nat) ≠ 2 by decide), gX_sI]
  · intro k hk
    match k, hk with
    | 0, hk => exact absurd rfl hk
    | 1, _ => rfl
    | 2, _ => rfl
    | 3, _ => rfl
    | 4, _ => rfl
    | 5, _ => rfl
    | 6, _ => rfl
    | 7, _ => rfl
    | 8, _ => rfl
    | 9, _ => rfl
    | 10, _ => rfl
    | 11, _ => rfl
    | 12, _ => rfl
    | 13, _ => rfl
    | 14, _ => rfl
    | 15, _ => rfl
    | 16, _ => rfl
    | 17, _ => rfl
    | 18, _ => rfl
    | 19, _ => rfl
    | 20, _ => rfl
    | 21, _ => rfl
    | 22, _ => rfl
    | 23, _ => rfl
    | 24, _ => rfl
    | _ + 25, _ => rfl
theorem up_MO_low2 {v : Int32} : va_up (contM am cs σ) 0 (.inr (5, [.ref (am 1), .ref (am 2), .ref (am 3), .ref (am 4), .ref (am 5), .ref (am 6), .ref (am 7), .ref (am 8), .ref (am 9), .int (gI σ 0), .int (gI σ 1), .int (gI σ 2), .int v, .int (gI σ 4), .int (gI σ 5), .ref (am 10), .ref (am 11), .ref (am 12), .ref (am 13), .ref (am 14), .ref (am 15), .int (gI σ 6), .int (gI σ 7), .ref (am 16), .ref (am 17), .ref (am 18), .ref (am 19), .ref (am 20), .ref (am 21), .ref (am 22), .ref (am 23), .ref (am 24), .int (gI σ 8), .int (gI σ 9), .int (gI σ 10), .int (gI σ 11), .int (gI σ 12), .int (gI σ 13), .double (gX σ 0)])) = contM am cs (sI σ 3 v) := by
  refine upm_of ?_ ?_
  · simp only [contM, gI_sI, gI_s (show (0 : Nat) ≠ 3 by decide), gI_s (show (1 : Nat) ≠ 3 by decide), gI_s (show (2 : Nat) ≠ 3 by decide), gI_s (show (4 : Nat) ≠ 3 by decide), gI_s (show (5 : Nat) ≠ 3 by decide), gI_s (show (6 : Nat) ≠ 3 by decide), gI_s (show (7 : Nat) ≠ 3 by decide), gI_s (show (8 : Nat) ≠ 3 by decide), gI_s (show (9 : Nat) ≠ 3 by decide), gI_s (show (10 : Nat) ≠ 3 by decide), gI_s (show (11 : Nat) ≠ 3 by decide), gI_s (show (12 : Nat) ≠ 3 by decide), gI_s (show (13 : Nat) ≠ 3 by decide), gX_sI]
  · intro k hk
    match k, hk with
    | 0, hk => exact absurd rfl hk
    | 1, _ => rfl
    | 2, _ => rfl
    | 3, _ => rfl
    | 4, _ => rfl
    | 5, _ => rfl
    | 6, _ => rfl
    | 7, _ => rfl
    | 8, _ => rfl
    | 9, _ => rfl
    | 10, _ => rfl
    | 11, _ => rfl
    | 12, _ => rfl
    | 13, _ => rfl
    | 14, _ => rfl
    | 15, _ => rfl
    | 16, _ => rfl
    | 17, _ => rfl
    | 18, _ => rfl
    | 19, _ => rfl
    | 20, _ => rfl
    | 21, _ => rfl
    | 22, _ => rfl
    | 23, _ => rfl
    | 24, _ => rfl
    | _ + 25, _ => rfl
theorem up_MO_high2 {v : Int32} : va_up (contM am cs σ) 0 (.inr (5, [.ref (am 1), .ref (am 2), .ref (am 3), .ref (am 4), .ref (am 5), .ref (am 6), .ref (am 7), .ref (am 8), .ref (am 9), .int (gI σ 0), .int (gI σ 1), .int (gI σ 2), .int (gI σ 3), .int v, .int (gI σ 5), .ref (am 10), .ref (am 11), .ref (am 12), .ref (am 13), .ref (am 14), .ref (am 15), .int (gI σ 6), .int (gI σ 7), .ref (am 16), .ref (am 17), .ref (am 18), .ref (am 19), .ref (am 20), .ref (am 21), .ref (am 22), .ref (am 23), .ref (am 24), .int (gI σ 8), .int (gI σ 9), .int (gI σ 10), .int (gI σ 11), .int (gI σ 12), .int (gI σ 13), .double (gX σ 0)])) = contM am cs (sI σ 4 v) := by
  refine upm_of ?_ ?_
  · simp only [contM, gI_sI, gI_s (show (0 : Nat) ≠ 4 by decide), gI_s (show (1 : Nat) ≠ 4 by decide), gI_s (show (2 : Nat) ≠ 4 by decide), gI_s (show (3 : Nat) ≠ 4 by decide), gI_s (show (5 : Nat) ≠ 4 by decide), gI_s (show (6 : Nat) ≠ 4 by decide), gI_s (show (7 : Nat) ≠ 4 by decide), gI_s (show (8 : Nat) ≠ 4 by decide), gI_s (show (9 : Nat) ≠ 4 by decide), gI_s (show (10 : Nat) ≠ 4 by decide), gI_s (show (11 : Nat) ≠ 4 by decide), gI_s (show (12 : Nat) ≠ 4 by decide), gI_s (show (13 : Nat) ≠ 4 by decide), gX_sI]
  · intro k hk
    match k, hk with
    | 0, hk => exact absurd rfl hk
    | 1, _ => rfl
    | 2, _ => rfl
    | 3, _ => rfl
    | 4, _ => rfl
    | 5, _ => rfl
    | 6, _ => rfl
    | 7, _ => rfl
    | 8, _ => rfl
    | 9, _ => rfl
    | 10, _ => rfl
    | 11, _ => rfl
    | 12, _ => rfl
    | 13, _ => rfl
    | 14, _ => rfl
    | 15, _ => rfl
    | 16, _ => rfl
    | 17, _ => rfl
    | 18, _ => rfl
    | 19, _ => rfl
    | 20, _ => rfl
    | 21, _ => rfl
    | 22, _ => rfl
    | 23, _ => rfl
    | 24, _ => rfl
    | _ + 25, _ => rfl
theorem up_MO_thrown {v : Int32} : va_up (contM am cs σ) 0 (.inr (5, [.ref (am 1), .ref (am 2), .ref (am 3), .ref (am 4), .ref (am 5), .ref (am 6), .ref (am 7), .ref (am 8), .ref (am 9), .int (gI σ 0), .int (gI σ 1), .int (gI σ 2), .int (gI σ 3), .int (gI σ 4), .int v, .ref (am 10), .ref (am 11), .ref (am 12), .ref (am 13), .ref (am 14), .ref (am 15), .int (gI σ 6), .int (gI σ 7), .ref (am 16), .ref (am 17), .ref (am 18), .ref (am 19), .ref (am 20), .ref (am 21), .ref (am 22), .ref (am 23), .ref (am 24), .int (gI σ 8), .int (gI σ 9), .int (gI σ 10), .int (gI σ 11), .int (gI σ 12), .int (gI σ 13), .double (gX σ 0)])) = contM am cs (sI σ 5 v) := by
  refine upm_of ?_ ?_
  · simp only [contM, gI_sI, gI_s (show (0 : Nat) ≠ 5 by decide), gI_s (show (1 : Nat) ≠ 5 by decide), gI_s (show (2 : Nat) ≠ 5 by decide), gI_s (show (3 : Nat) ≠ 5 by decide), gI_s (show (4 : Nat) ≠ 5 by decide), gI_s (show (6 : Nat) ≠ 5 by decide), gI_s (show (7 : Nat) ≠ 5 by decide), gI_s (show (8 : Nat) ≠ 5 by decide), gI_s (show (9 : Nat) ≠ 5 by decide), gI_s (show (10 : Nat) ≠ 5 by decide), gI_s (show (11 : Nat) ≠ 5 by decide), gI_s (show (12 : Nat) ≠ 5 by decide), gI_s (show (13 : Nat) ≠ 5 by decide), gX_sI]
  · intro k hk
    match k, hk with
    | 0, hk => exact absurd rfl hk
    | 1, _ => rfl
    | 2, _ => rfl
    | 3, _ => rfl
    | 4, _ => rfl
    | 5, _ => rfl
    | 6, _ => rfl
    | 7, _ => rfl
    | 8, _ => rfl
    | 9, _ => rfl
    | 10, _ => rfl
    | 11, _ => rfl
    | 12, _ => rfl
    | 13, _ => rfl
    | 14, _ => rfl
    | 15, _ => rfl
    | 16, _ => rfl
    | 17, _ => rfl
    | 18, _ => rfl
    | 19, _ => rfl
    | 20, _ => rfl
    | 21, _ => rfl
    | 22, _ => rfl
    | 23, _ => rfl
    | 24, _ => rfl
    | _ + 25, _ => rfl
theorem up_MO_environments {v : Int32} : va_up (contM am cs σ) 0 (.inr (5, [.ref (am 1), .ref (am 2), .ref (am 3), .ref (am 4), .ref (am 5), .ref (am 6), .ref (am 7), .ref (am 8), .ref (am 9), .int (gI σ 0), .int (gI σ 1), .int (gI σ 2), .int (gI σ 3), .int (gI σ 4), .int (gI σ 5), .ref (am 10), .ref (am 11), .ref (am 12), .ref (am 13), .ref (am 14), .ref (am 15), .int v, .int (gI σ 7), .ref (am 16), .ref (am 17), .ref (am 18), .ref (am 19), .ref (am 20), .ref (am 21), .ref (am 22), .ref (am 23), .ref (am 24), .int (gI σ 8), .int (gI σ 9), .int (gI σ 10), .int (gI σ 11), .int (gI σ 12), .int (gI σ 13), .double (gX σ 0)])) = contM am cs (sI σ 6 v) := by
  refine upm_of ?_ ?_
  · simp only [contM, gI_sI, gI_s (show (0 : Nat) ≠ 6 by decide), gI_s (show (1 : Nat) ≠ 6 by decide), gI_s (show (2 : Nat) ≠ 6 by decide), gI_s (show (3 : Nat) ≠ 6 by decide), gI_s (show (4 : Nat) ≠ 6 by decide), gI_s (show (5 : Nat) ≠ 6 by decide), gI_s (show (7 : Nat) ≠ 6 by decide), gI_s (show (8 : Nat) ≠ 6 by decide), gI_s (show (9 : Nat) ≠ 6 by decide), gI_s (show (10 : Nat) ≠ 6 by decide), gI_s (show (11 : Nat) ≠ 6 by decide), gI_s (show (12 : Nat) ≠ 6 by decide), gI_s (show (13 : Nat) ≠ 6 by decide), gX_sI]
  · intro k hk
    match k, hk with
    | 0, hk => exact absurd rfl hk
    | 1, _ => rfl
    | 2, _ => rfl
    | 3, _ => rfl
    | 4, _ => rfl
    | 5, _ => rfl
    | 6, _ => rfl
    | 7, _ => rfl
    | 8, _ => rfl
    | 9, _ => rfl
    | 10, _ => rfl
    | 11, _ => rfl
    | 12, _ => rfl
    | 13, _ => rfl
    | 14, _ => rfl
    | 15, _ => rfl
    | 16, _ => rfl
    | 17, _ => rfl
    | 18, _ => rfl
    | 19, _ => rfl
    | 20, _ => rfl
    | 21, _ => rfl
    | 22, _ => rfl
    | 23, _ => rfl
    | 24, _ => rfl
    | _ + 25, _ => rfl
theorem up_MO_depth {v : Int32} : va_up (contM am cs σ) 0 (.inr (5, [.ref (am 1), .ref (am 2), .ref (am 3), .ref (am 4), .ref (am 5), .ref (am 6), .ref (am 7), .ref (am 8), .ref (am 9), .int (gI σ 0), .int (gI σ 1), .int (gI σ 2), .int (gI σ 3), .int (gI σ 4), .int (gI σ 5), .ref (am 10), .ref (am 11), .ref (am 12), .ref (am 13), .ref (am 14), .ref (am 15), .int (gI σ 6), .int v, .ref (am 16), .ref (am 17), .ref (am 18), .ref (am 19), .ref (am 20), .ref (am 21), .ref (am 22), .ref (am 23), .ref (am 24), .int (gI σ 8), .int (gI σ 9), .int (gI σ 10), .int (gI σ 11), .int (gI σ 12), .int (gI σ 13), .double (gX σ 0)])) = contM am cs (sI σ 7 v) := by
  refine upm_of ?_ ?_
  · simp only [contM, gI_sI, gI_s (show (0 : Nat) ≠ 7 by decide), gI_s (show (1 : Nat) ≠ 7 by decide), gI_s (show (2 : Nat) ≠ 7 by decide), gI_s (show (3 : Nat) ≠ 7 by decide), gI_s (show (4 : Nat) ≠ 7 by decide), gI_s (show (5 : Nat) ≠ 7 by decide), gI_s (show (6 : Nat) ≠ 7 by decide), gI_s (show (8 : Nat) ≠ 7 by decide), gI_s (show (9 : Nat) ≠ 7 by decide), gI_s (show (10 : Nat) ≠ 7 by decide), gI_s (show (11 : Nat) ≠ 7 by decide), gI_s (show (12 : Nat) ≠ 7 by decide), gI_s (show (13 : Nat) ≠ 7 by decide), gX_sI]
  · intro k hk
    match k, hk with
    | 0, hk => exact absurd rfl hk
    | 1, _ => rfl
    | 2, _ => rfl
    | 3, _ => rfl
    | 4, _ => rfl
    | 5, _ => rfl
    | 6, _ => rfl
    | 7, _ => rfl
    | 8, _ => rfl
    | 9, _ => rfl
    | 10, _ => rfl
    | 11, _ => rfl
    | 12, _ => rfl
    | 13, _ => rfl
    | 14, _ => rfl
    | 15, _ => rfl
    | 16, _ => rfl
    | 17, _ => rfl
    | 18, _ => rfl
    | 19, _ => rfl
    | 20, _ => rfl
    | 21, _ => rfl
    | 22, _ => rfl
    | 23, _ => rfl
    | 24, _ => rfl
    | _ + 25, _ => rfl
theorem up_MO_top {v : Int32} : va_up (contM am cs σ) 0 (.inr (5, [.ref (am 1), .ref (am 2), .ref (am 3), .ref (am 4), .ref (am 5), .ref (am 6), .ref (am 7), .ref (am 8), .ref (am 9), .int (gI σ 0), .int (gI σ 1), .int (gI σ 2), .int (gI σ 3), .int (gI σ 4), .int (gI σ 5), .ref (am 10), .ref (am 11), .ref (am 12), .ref (am 13), .ref (am 14), .ref (am 15), .int (gI σ 6), .int (gI σ 7), .ref (am 16), .ref (am 17), .ref (am 18), .ref (am 19), .ref (am 20), .ref (am 21), .ref (am 22), .ref (am 23), .ref (am 24), .int v, .int (gI σ 9), .int (gI σ 10), .int (gI σ 11), .int (gI σ 12), .int (gI σ 13), .double (gX σ 0)])) = contM am cs (sI σ 8 v) := by
  refine upm_of ?_ ?_
  · simp only [contM, gI_sI, gI_s (show (0 : Nat) ≠ 8 by decide), gI_s (show (1 : Nat) ≠ 8 by decide), gI_s (show (2 : Nat) ≠ 8 by decide), gI_s (show (3 : Nat) ≠ 8 by decide), gI_s (show (4 : Nat) ≠ 8 by decide), gI_s (show (5 : Nat) ≠ 8 by decide), gI_s (show (6 : Nat) ≠ 8 by decide), gI_s (show (7 : Nat) ≠ 8 by decide), gI_s (show (9 : Nat) ≠ 8 by decide), gI_s (show (10 : Nat) ≠ 8 by decide), gI_s (show (11 : Nat) ≠ 8 by decide), gI_s (show (12 : Nat) ≠ 8 by decide), gI_s (show (13 : Nat) ≠ 8 by decide), gX_sI]
  · intro k hk
    match k, hk with
    | 0, hk => exact absurd rfl hk
    | 1, _ => rfl
    | 2, _ => rfl
    | 3, _ => rfl
    | 4, _ => rfl
    | 5, _ => rfl
    | 6, _ => rfl
    | 7, _ => rfl
    | 8, _ => rfl
    | 9, _ => rfl
    | 10, _ => rfl
    | 11, _ => rfl
    | 12, _ => rfl
    | 13, _ => rfl
    | 14, _ => rfl
    | 15, _ => rfl
    | 16, _ => rfl
    | 17, _ => rfl
    | 18, _ => rfl
    | 19, _ => rfl
    | 20, _ => rfl
    | 21, _ => rfl
    | 22, _ => rfl
    | 23, _ => rfl
    | 24, _ => rfl
    | _ + 25, _ => rfl
theorem up_MO_done {v : Int32} : va_up (contM am cs σ) 0 (.inr (5, [.ref (am 1), .ref (am 2), .ref (am 3), .ref (am 4), .ref (am 5), .ref (am 6), .ref (am 7), .ref (am 8), .ref (am 9), .int (gI σ 0), .int (gI σ 1), .int (gI σ 2), .int (gI σ 3), .int (gI σ 4), .int (gI σ 5), .ref (am 10), .ref (am 11), .ref (am 12), .ref (am 13), .ref (am 14), .ref (am 15), .int (gI σ 6), .int (gI σ 7), .ref (am 16), .ref (am 17), .ref (am 18), .ref (am 19), .ref (am 20), .ref (am 21), .ref (am 22), .ref (am 23), .ref (am 24), .int (gI σ 8), .int v, .int (gI σ 10), .int (gI σ 11), .int (gI σ 12), .int (gI σ 13), .double (gX σ 0)])) = contM am cs (sI σ 9 v) := by
  refine upm_of ?_ ?_
  · simp only [contM, gI_sI, gI_s (show (0 : Nat) ≠ 9 by decide), gI_s (show (1 : Nat) ≠ 9 by decide), gI_s (show (2 : Nat) ≠ 9 by decide), gI_s (show (3 : Nat) ≠ 9 by decide), gI_s (show (4 : Nat) ≠ 9 by decide), gI_s (show (5 : Nat) ≠ 9 by decide), gI_s (show (6 : Nat) ≠ 9 by decide), gI_s (show (7 : Nat) ≠ 9 by decide), gI_s (show (8 : Nat) ≠ 9 by decide), gI_s (show (10 : Nat) ≠ 9 by decide), gI_s (show (11 : Nat) ≠ 9 by decide), gI_s (show (12 : Nat) ≠ 9 by decide), gI_s (show (13 : Nat) ≠ 9 by decide), gX_sI]
  · intro k hk
    match k, hk with
    | 0, hk => exact absurd rfl hk
    | 1, _ => rfl
    | 2, _ => rfl
    | 3, _ => rfl
    | 4, _ => rfl
    | 5, _ => rfl
    | 6, _ => rfl
    | 7, _ => rfl
    | 8, _ => rfl
    | 9, _ => rfl
    | 10, _ => rfl
    | 11, _ => rfl
    | 12, _ => rfl
    | 13, _ => rfl
    | 14, _ => rfl
    | 15, _ => rfl
    | 16, _ => rfl
    | 17, _ => rfl
    | 18, _ => rfl
    | 19, _ => rfl
    | 20, _ => rfl
    | 21, _ => rfl
    | 22, _ => rfl
    | 23, _ => rfl
    | 24, _ => rfl
    | _ + 25, _ => rfl
theorem up_MO_fault {v : Int32} : va_up (contM am cs σ) 0 (.inr (5, [.ref (am 1), .ref (am 2), .ref (am 3), .ref (am 4), .ref (am 5), .ref (am 6), .ref (am 7), .ref (am 8), .ref (am 9), .int (gI σ 0), .int (gI σ 1), .int (gI σ 2), .int (gI σ 3), .int (gI σ 4), .int (gI σ 5), .ref (am 10), .ref (am 11), .ref (am 12), .ref (am 13), .ref (am 14), .ref (am 15), .int (gI σ 6), .int (gI σ 7), .ref (am 16), .ref (am 17), .ref (am 18), .ref (am 19), .ref (am 20), .ref (am 21), .ref (am 22), .ref (am 23), .ref (am 24), .int (gI σ 8), .int (gI σ 9), .int v, .int (gI σ 11), .int (gI σ 12), .int (gI σ 13), .double (gX σ 0)])) = contM am cs (sI σ 10 v) := by
  refine upm_of ?_ ?_
  · simp only [contM, gI_sI, gI_s (show (0 : Nat) ≠ 10 by decide), gI_s (show (1 : Nat) ≠ 10 by decide), gI_s (show (2 : Nat) ≠ 10 by decide), gI_s (show (3 : Nat) ≠ 10 by decide), gI_s (show (4 : Nat) ≠ 10 by decide), gI_s (show (5 : Nat) ≠ 10 by decide), gI_s (show (6 : Nat) ≠ 10 by decide), gI_s (show (7 : Nat) ≠ 10 by decide), gI_s (show (8 : Nat) ≠ 10 by decide), gI_s (show (9 : Nat) ≠ 10 by decide), gI_s (show (11 : Nat) ≠ 10 by decide), gI_s (show (12 : Nat) ≠ 10 by decide), gI_s (show (13 : Nat) ≠ 10 by decide), gX_sI]
  · intro k hk
    match k, hk with
    | 0, hk => exact absurd rfl hk
    | 1, _ => rfl
    | 2, _ => rfl
    | 3, _ => rfl
    | 4, _ => rfl
    | 5, _ => rfl
    | 6, _ => rfl
    | 7, _ => rfl
    | 8, _ => rfl
    | 9, _ => rfl
    | 10, _ => rfl
    | 11, _ => rfl
    | 12, _ => rfl
    | 13, _ => rfl
    | 14, _ => rfl
    | 15, _ => rfl
    | 16, _ => rfl
    | 17, _ => rfl
    | 18, _ => rfl
    | 19, _ => rfl
    | 20, _ => rfl
    | 21, _ => rfl
    | 22, _ => rfl
    | 23, _ => rfl
    | 24, _ => rfl
    | _ + 25, _ => rfl
theorem up_MO_calls {v : Int32} : va_up (contM am cs σ) 0 (.inr (5, [.ref (am 1), .ref (am 2), .ref (am 3), .ref (am 4), .ref (am 5), .ref (am 6), .ref (am 7), .ref (am 8), .ref (am 9), .int (gI σ 0), .int (gI σ 1), .int (gI σ 2), .int (gI σ 3), .int (gI σ 4), .int (gI σ 5), .ref (am 10), .ref (am 11), .ref (am 12), .ref (am 13), .ref (am 14), .ref (am 15), .int (gI σ 6), .int (gI σ 7), .ref (am 16), .ref (am 17), .ref (am 18), .ref (am 19), .ref (am 20), .ref (am 21), .ref (am 22), .ref (am 23), .ref (am 24), .int (gI σ 8), .int (gI σ 9), .int (gI σ 10), .int v, .int (gI σ 12), .int (gI σ 13), .double (gX σ 0)])) = contM am cs (sI σ 11 v) := by
  refine upm_of ?_ ?_
  · simp only [contM, gI_sI, gI_s (show (0 : Nat) ≠ 11 by decide), gI_s (show (1 : Nat) ≠ 11 by decide), gI_s (show (2 : Nat) ≠ 11 by decide), gI_s (show (3 : Nat) ≠ 11 by decide), gI_s (show (4 : Nat) ≠ 11 by decide), gI_s (show (5 : Nat) ≠ 11 by decide), gI_s (show (6 : Nat) ≠ 11 by decide), gI_s (show (7 : Nat) ≠ 11 by decide), gI_s (show (8 : Nat) ≠ 11 by decide), gI_s (show (9 : Nat) ≠ 11 by decide), gI_s (show (10 : Nat) ≠ 11 by decide), gI_s (show (12 : Nat) ≠ 11 by decide), gI_s (show (13 : Nat) ≠ 11 by decide), gX_sI]
  · intro k hk
    match k, hk with
    | 0, hk => exact absurd rfl hk
    | 1, _ => rfl
    | 2, _ => rfl
    | 3, _ => rfl
    | 4, _ => rfl
    | 5, _ => rfl
    | 6, _ => rfl
    | 7, _ => rfl
    | 8, _ => rfl
    | 9, _ => rfl
    | 10, _ => rfl
    | 11, _ => rfl
    | 12, _ => rfl
    | 13, _ => rfl
    | 14, _ => rfl
    | 15, _ => rfl
    | 16, _ => rfl
    | 17, _ => rfl
    | 18, _ => rfl
    | 19, _ => rfl
    | 20, _ => rfl
    | 21, _ => rfl
    | 22, _ => rfl
    | 23, _ => rfl
    | 24, _ => rfl
    | _ + 25, _ => rfl
theorem up_MO_most {v : Int32} : va_up (contM am cs σ) 0 (.inr (5, [.ref (am 1), .ref (am 2), .ref (am 3), .ref (am 4), .ref (am 5), .ref (am 6), .ref (am 7), .ref (am 8), .ref (am 9), .int (gI σ 0), .int (gI σ 1), .int (gI σ 2), .int (gI σ 3), .int (gI σ 4), .int (gI σ 5), .ref (am 10), .ref (am 11), .ref (am 12), .ref (am 13), .ref (am 14), .ref (am 15), .int (gI σ 6), .int (gI σ 7), .ref (am 16), .ref (am 17), .ref (am 18), .ref (am 19), .ref (am 20), .ref (am 21), .ref (am 22), .ref (am 23), .ref (am 24), .int (gI σ 8), .int (gI σ 9), .int (gI σ 10), .int (gI σ 11), .int v, .int (gI σ 13), .double (gX σ 0)])) = contM am cs (sI σ 12 v) := by
  refine upm_of ?_ ?_
  · simp only [contM, gI_sI, gI_s (show (0 : Nat) ≠ 12 by decide), gI_s (show (1 : Nat) ≠ 12 by decide), gI_s (show (2 : Nat) ≠ 12 by decide), gI_s (show (3 : Nat) ≠ 12 by decide), gI_s (show (4 : Nat) ≠ 12 by decide), gI_s (show (5 : Nat) ≠ 12 by decide), gI_s (show (6 : Nat) ≠ 12 by decide), gI_s (show (7 : Nat) ≠ 12 by decide), gI_s (show (8 : Nat) ≠ 12 by decide), gI_s (show (9 : Nat) ≠ 12 by decide), gI_s (show (10 : Nat) ≠ 12 by decide), gI_s (show (11 : Nat) ≠ 12 by decide), gI_s (show (13 : Nat) ≠ 12 by decide), gX_sI]
  · intro k hk
    match k, hk with
    | 0, hk => exact absurd rfl hk
    | 1, _ => rfl
    | 2, _ => rfl
    | 3, _ => rfl
    | 4, _ => rfl
    | 5, _ => rfl
    | 6, _ => rfl
    | 7, _ => rfl
    | 8, _ => rfl
    | 9, _ => rfl
    | 10, _ => rfl
    | 11, _ => rfl
    | 12, _ => rfl
    | 13, _ => rfl
    | 14, _ => rfl
    | 15, _ => rfl
    | 16, _ => rfl
    | 17, _ => rfl
    | 18, _ => rfl
    | 19, _ => rfl
    | 20, _ => rfl
    | 21, _ => rfl
    | 22, _ => rfl
    | 23, _ => rfl
    | 24, _ => rfl
    | _ + 25, _ => rfl
theorem up_MO_jumps {v : Int32} : va_up (contM am cs σ) 0 (.inr (5, [.ref (am 1), .ref (am 2), .ref (am 3), .ref (am 4), .ref (am 5), .ref (am 6), .ref (am 7), .ref (am 8), .ref (am 9), .int (gI σ 0), .int (gI σ 1), .int (gI σ 2), .int (gI σ 3), .int (gI σ 4), .int (gI σ 5), .ref (am 10), .ref (am 11), .ref (am 12), .ref (am 13), .ref (am 14), .ref (am 15), .int (gI σ 6), .int (gI σ 7), .ref (am 16), .ref (am 17), .ref (am 18), .ref (am 19), .ref (am 20), .ref (am 21), .ref (am 22), .ref (am 23), .ref (am 24), .int (gI σ 8), .int (gI σ 9), .int (gI σ 10), .int (gI σ 11), .int (gI σ 12), .int v, .double (gX σ 0)])) = contM am cs (sI σ 13 v) := by
  refine upm_of ?_ ?_
  · simp only [contM, gI_sI, gI_s (show (0 : Nat) ≠ 13 by decide), gI_s (show (1 : Nat) ≠ 13 by decide), gI_s (show (2 : Nat) ≠ 13 by decide), gI_s (show (3 : Nat) ≠ 13 by decide), gI_s (show (4 : Nat) ≠ 13 by decide), gI_s (show (5 : Nat) ≠ 13 by decide), gI_s (show (6 : Nat) ≠ 13 by decide), gI_s (show (7 : Nat) ≠ 13 by decide), gI_s (show (8 : Nat) ≠ 13 by decide), gI_s (show (9 : Nat) ≠ 13 by decide), gI_s (show (10 : Nat) ≠ 13 by decide), gI_s (show (11 : Nat) ≠ 13 by decide), gI_s (show (12 : Nat) ≠ 13 by decide), gX_sI]
  · intro k hk
    match k, hk with
    | 0, hk => exact absurd rfl hk
    | 1, _ => rfl
    | 2, _ => rfl
    | 3, _ => rfl
    | 4, _ => rfl
    | 5, _ => rfl
    | 6, _ => rfl
    | 7, _ => rfl
    | 8, _ => rfl
    | 9, _ => rfl
    | 10, _ => rfl
    | 11, _ => rfl
    | 12, _ => rfl
    | 13, _ => rfl
    | 14, _ => rfl
    | 15, _ => rfl
    | 16, _ => rfl
    | 17, _ => rfl
    | 18, _ => rfl
    | 19, _ => rfl
    | 20, _ => rfl
    | 21, _ => rfl
    | 22, _ => rfl
    | 23, _ => rfl
    | 24, _ => rfl
    | _ + 25, _ => rfl
theorem up_MO_value {v : UInt64} : va_up (contM am cs σ) 0 (.inr (5, [.ref (am 1), .ref (am 2), .ref (am 3), .ref (am 4), .ref (am 5), .ref (am 6), .ref (am 7), .ref (am 8), .ref (am 9), .int (gI σ 0), .int (gI σ 1), .int (gI σ 2), .int (gI σ 3), .int (gI σ 4), .int (gI σ 5), .ref (am 10), .ref (am 11), .ref (am 12), .ref (am 13), .ref (am 14), .ref (am 15), .int (gI σ 6), .int (gI σ 7), .ref (am 16), .ref (am 17), .ref (am 18), .ref (am 19), .ref (am 20), .ref (am 21), .ref (am 22), .ref (am 23), .ref (am 24), .int (gI σ 8), .int (gI σ 9), .int (gI σ 10), .int (gI σ 11), .int (gI σ 12), .int (gI σ 13), .double v])) = contM am cs (sX σ 0 v) := by
  refine upm_of ?_ ?_
  · simp only [contM, gX_sX, gI_sX]
  · intro k hk
    match k, hk with
    | 0, hk => exact absurd rfl hk
    | 1, _ => rfl
    | 2, _ => rfl
    | 3, _ => rfl
    | 4, _ => rfl
    | 5, _ => rfl
    | 6, _ => rfl
    | 7, _ => rfl
    | 8, _ => rfl
    | 9, _ => rfl
    | 10, _ => rfl
    | 11, _ => rfl
    | 12, _ => rfl
    | 13, _ => rfl
    | 14, _ => rfl
    | 15, _ => rfl
    | 16, _ => rfl
    | 17, _ => rfl
    | 18, _ => rfl
    | 19, _ => rfl
    | 20, _ => rfl
    | 21, _ => rfl
    | 22, _ => rfl
    | 23, _ => rfl
    | 24, _ => rfl
    | _ + 25, _ => rfl
theorem mpa_0 {f : Nat → Int32} : va_up (contM am cs σ) 1 (.inl (cs.1, 48, .inl (f))) = contM am cs (sA σ 0 f) := by
  refine upm_of ?_ ?_
  · simp only [contM, gA_sA]
  · intro k hk
    match k, hk with
    | 0, _ => rfl
    | 1, hk => exact absurd rfl hk
    | 2, _ => simp only [contM, gA_s (show (1 : Nat) ≠ 0 by decide)]
    | 3, _ => simp only [contM, gA_s (show (2 : Nat) ≠ 0 by decide)]
    | 4, _ => simp only [contM, gA_s (show (3 : Nat) ≠ 0 by decide)]
    | 5, _ => simp only [contM, gA_s (show (4 : Nat) ≠ 0 by decide)]
    | 6, _ => simp only [contM, gA_s (show (5 : Nat) ≠ 0 by decide)]
    | 7, _ => simp only [contM, gA_s (show (6 : Nat) ≠ 0 by decide)]
    | 8, _ => rfl
    | 9, _ => rfl
    | 10, _ => simp only [contM, gA_s (show (7 : Nat) ≠ 0 by decide)]
    | 11, _ => simp only [contM, gA_s (show (8 : Nat) ≠ 0 by decide)]
    | 12, _ => simp only [contM, gA_s (show (9 : Nat) ≠ 0 by decide)]
    | 13, _ => simp only [contM, gA_s (show (10 : Nat) ≠ 0 by decide)]
    | 14, _ => rfl
    | 15, _ => rfl
    | 16, _ => simp only [contM, gA_s (show (11 : Nat) ≠ 0 by decide)]
    | 17, _ => simp only [contM, gA_s (show (12 : Nat) ≠ 0 by decide)]
    | 18, _ => simp only [contM, gA_s (show (13 : Nat) ≠ 0 by decide)]
    | 19, _ => simp only [contM, gA_s (show (14 : Nat) ≠ 0 by decide)]
    | 20, _ => simp only [contM, gA_s (show (15 : Nat) ≠ 0 by decide)]
    | 21, _ => simp only [contM, gA_s (show (16 : Nat) ≠ 0 by decide)]
    | 22, _ => simp only [contM, gA_s (show (17 : Nat) ≠ 0 by decide)]
    | 23, _ => rfl
    | 24, _ => rfl
    | _ + 25, _ => rfl
theorem mpa_1 {f : Nat → Int32} : va_up (contM am cs σ) 2 (.inl (cs.1, 48, .inl (f))) = contM am cs (sA σ 1 f) := by
  refine upm_of ?_ ?_
  · simp only [contM, gA_sA]
  · intro k hk
    match k, hk with
    | 0, _ => rfl
    | 1, _ => simp only [contM, gA_s (show (0 : Nat) ≠ 1 by decide)]
    | 2, hk => exact absurd rfl hk
    | 3, _ => simp only [contM, gA_s (show (2 : Nat) ≠ 1 by decide)]
    | 4, _ => simp only [contM, gA_s (show (3 : Nat) ≠ 1 by decide)]
    | 5, _ => simp only [contM, gA_s (show (4 : Nat) ≠ 1 by decide)]
    | 6, _ => simp only [contM, gA_s (show (5 : Nat) ≠ 1 by decide)]
    | 7, _ => simp only [contM, gA_s (show (6 : Nat) ≠ 1 by decide)]
    | 8, _ => rfl
    | 9, _ => rfl
    | 10, _ => simp only [contM, gA_s (show (7 : Nat) ≠ 1 by decide)]
    | 11, _ => simp only [contM, gA_s (show (8 : Nat) ≠ 1 by decide)]
    | 12, _ => simp only [contM, gA_s (show (9 : Nat) ≠ 1 by decide)]
    | 13, _ => simp only [contM, gA_s (show (10 : Nat) ≠ 1 by decide)]
    | 14, _ => rfl
    | 15, _ => rfl
    | 16, _ => simp only [contM, gA_s (show (11 : Nat) ≠ 1 by decide)]
    | 17, _ => simp only [contM, gA_s (show (12 : Nat) ≠ 1 by decide)]
    | 18, _ => simp only [contM, gA_s (show (13 : Nat) ≠ 1 by decide)]
    | 19, _ => simp only [contM, gA_s (show (14 : Nat) ≠ 1 by decide)]
    | 20, _ => simp only [contM, gA_s (show (15 : Nat) ≠ 1 by decide)]
    | 21, _ => simp only [contM, gA_s (show (16 : Nat) ≠ 1 by decide)]
    | 22, _ => simp only [contM, gA_s (show (17 : Nat) ≠ 1 by decide)]
    | 23, _ => rfl
    | 24, _ => rfl
    | _ + 25, _ => rfl
theorem mpa_2 {f : Nat → Int32} : va_up (contM am cs σ) 3 (.inl (cs.1, 48, .inl (f))) = contM am cs (sA σ 2 f) := by
  refine upm_of ?_ ?_
  · simp only [contM, gA_sA]
  · intro k hk
    match k, hk with
    | 0, _ => rfl
    | 1, _ => simp only [contM, gA_s (show (0 : Nat) ≠ 2 by decide)]
    | 2, _ => simp only [contM, gA_s (show (1 : Nat) ≠ 2 by decide)]
    | 3, hk => exact absurd rfl hk
    | 4, _ => simp only [contM, gA_s (show (3 : Nat) ≠ 2 by decide)]
    | 5, _ => simp only [contM, gA_s (show (4 : Nat) ≠ 2 by decide)]
    | 6, _ => simp only [contM, gA_s (show (5 : Nat) ≠ 2 by decide)]
    | 7, _ => simp only [contM, gA_s (show (6 : Nat) ≠ 2 by decide)]
    | 8, _ => rfl
    | 9, _ => rfl
    | 10, _ => simp only [contM, gA_s (show (7 : Nat) ≠ 2 by decide)]
    | 11, _ => simp only [contM, gA_s (show (8 : Nat) ≠ 2 by decide)]
    | 12, _ => simp only [contM, gA_s (show (9 : Nat) ≠ 2 by decide)]
    | 13, _ => simp only [contM, gA_s (show (10 : Nat) ≠ 2 by decide)]
    | 14, _ => rfl
    | 15, _ => rfl
    | 16, _ => simp only [contM, gA_s (show (11 : Nat) ≠ 2 by decide)]
    | 17, _ => simp only [contM, gA_s (show (12 : Nat) ≠ 2 by decide)]
    | 18, _ => simp only [contM, gA_s (show (13 : Nat) ≠ 2 by decide)]
    | 19, _ => simp only [contM, gA_s (show (14 : Nat) ≠ 2 by decide)]
    | 20, _ => simp only [contM, gA_s (show (15 : Nat) ≠ 2 by decide)]
    | 21, _ => simp only [contM, gA_s (show (16 : Nat) ≠ 2 by decide)]
    | 22, _ => simp only [contM, gA_s (show (17 : Nat) ≠ 2 by decide)]
    | 23, _ => rfl
    | 24, _ => rfl
    | _ + 25, _ => rfl
theorem mpa_3 {f : Nat → Int32} : va_up (contM am cs σ) 4 (.inl (cs.1, 48, .inl (f))) = contM am cs (sA σ 3 f) := by
  refine upm_of ?_ ?_
  · simp only [contM, gA_sA]
  · intro k hk
    match k, hk with
    | 0, _ => rfl
    | 1, _ => simp only [contM, gA_s (show (0 : Nat) ≠ 3 by decide)]
    | 2, _ => simp only [contM, gA_s (show (1 : Nat) ≠ 3 by decide)]
    | 3, _ => simp only [contM, gA_s (show (2 : Nat) ≠ 3 by decide)]
    | 4, hk => exact absurd rfl hk
    | 5, _ => simp only [contM, gA_s (show (4 : Nat) ≠ 3 by decide)]
    | 6, _ => simp only [contM, gA_s (show (5 : Nat) ≠ 3 by decide)]
    | 7, _ => simp only [contM, gA_s (show (6 : Nat) ≠ 3 by decide)]
    | 8, _ => rfl
    | 9, _ => rfl
    | 10, _ => simp only [contM, gA_s (show (7 : Nat) ≠ 3 by decide)]
    | 11, _ => simp only [contM, gA_s (show (8 : Nat) ≠ 3 by decide)]
    | 12, _ => simp only [contM, gA_s (show (9 : Nat) ≠ 3 by decide)]
    | 13, _ => simp only [contM, gA_s (show (10 : Nat) ≠ 3 by decide)]
    | 14, _ => rfl
    | 15, _ => rfl
    | 16, _ => simp only [contM, gA_s (show (11 : Nat) ≠ 3 by decide)]
    | 17, _ => simp only [contM, gA_s (show (12 : Nat) ≠ 3 by decide)]
    | 18, _ => simp only [contM, gA_s (show (13 : Nat) ≠ 3 by decide)]
    | 19, _ => simp only [contM, gA_s (show (14 : Nat) ≠ 3 by decide)]
    | 20, _ => simp only [contM, gA_s (show (15 : Nat) ≠ 3 by decide)]
    | 21, _ => simp only [contM, gA_s (show (16 : Nat) ≠ 3 by decide)]
    | 22, _ => simp only [contM, gA_s (show (17 : Nat) ≠ 3 by decide)]
    | 23, _ => rfl
    | 24, _ => rfl
    | _ + 25, _ => rfl
theorem mpa_4 {f : Nat → Int32} : va_up (contM am cs σ) 5 (.inl (cs.1, 4, .inl (f))) = contM am cs (sA σ 4 f) := by
  refine upm_of ?_ ?_
  · simp only [contM, gA_sA]
  · intro k hk
    match k, hk with
    | 0, _ => rfl
    | 1, _ => simp only [contM, gA_s (show (0 : Nat) ≠ 4 by decide)]
    | 2, _ => simp only [contM, gA_s (show (1 : Nat) ≠ 4 by decide)]
    | 3, _ => simp only [contM, gA_s (show (2 : Nat) ≠ 4 by decide)]
    | 4, _ => simp only [contM, gA_s (show (3 : Nat) ≠ 4 by decide)]
    | 5, hk => exact absurd rfl hk
    | 6, _ => simp only [contM, gA_s (show (5 : Nat) ≠ 4 by decide)]
    | 7, _ => simp only [contM, gA_s (show (6 : Nat) ≠ 4 by decide)]
    | 8, _ => rfl
    | 9, _ => rfl
    | 10, _ => simp only [contM, gA_s (show (7 : Nat) ≠ 4 by decide)]
    | 11, _ => simp only [contM, gA_s (show (8 : Nat) ≠ 4 by decide)]
    | 12, _ => simp only [contM, gA_s (show (9 : Nat) ≠ 4 by decide)]
    | 13, _ => simp only [contM, gA_s (show (10 : Nat) ≠ 4 by decide)]
    | 14, _ => rfl
    | 15, _ => rfl
    | 16, _ => simp only [contM, gA_s (show (11 : Nat) ≠ 4 by decide)]
    | 17, _ => simp only [contM, gA_s (show (12 : Nat) ≠ 4 by decide)]
    | 18, _ => simp only [contM, gA_s (show (13 : Nat) ≠ 4 by decide)]
    | 19, _ => simp only [contM, gA_s (show (14 : Nat) ≠ 4 by decide)]
    | 20, _ => simp only [contM, gA_s (show (15 : Nat) ≠ 4 by decide)]
    | 21, _ => simp only [contM, gA_s (show (16 : Nat) ≠ 4 by decide)]
    | 22, _ => simp only [contM, gA_s (show (17 : Nat) ≠ 4 by decide)]
    | 23, _ => rfl
    | 24, _ => rfl
    | _ + 25, _ => rfl
theorem mpa_5 {f : Nat → Int32} : va_up (contM am cs σ) 6 (.inl (cs.1, 4, .inl (f))) = contM am cs (sA σ 5 f) := by
  refine upm_of ?_ ?_
  · simp only [contM, gA_sA]
  · intro k hk
    match k, hk with
    | 0, _ => rfl
    | 1, _ => simp only [contM, gA_s (show (0 : Nat) ≠ 5 by decide)]
    | 2, _ => simp only [contM, gA_s (show (1 : Nat) ≠ 5 by decide)]
    | 3, _ => simp only [contM, gA_s (show (2 : Nat) ≠ 5 by decide)]
    | 4, _ => simp only [contM, gA_s (show (3 : Nat) ≠ 5 by decide)]
    | 5, _ => simp only [contM, gA_s (show (4 : Nat) ≠ 5 by decide)]
    | 6, hk => exact absurd rfl hk
    | 7, _ => simp only [contM, gA_s (show (6 : Nat) ≠ 5 by decide)]
    | 8, _ => rfl
    | 9, _ => rfl
    | 10, _ => simp only [contM, gA_s (show (7 : Nat) ≠ 5 by decide)]
    | 11, _ => simp only [contM, gA_s (show (8 : Nat) ≠ 5 by decide)]
    | 12, _ => simp only [contM, gA_s (show (9 : Nat) ≠ 5 by decide)]
    | 13, _ => simp only [contM, gA_s (show (10 : Nat) ≠ 5 by decide)]
    | 14, _ => rfl
    | 15, _ => rfl
    | 16, _ => simp only [contM, gA_s (show (11 : Nat) ≠ 5 by decide)]
    | 17, _ => simp only [contM, gA_s (show (12 : Nat) ≠ 5 by decide)]
    | 18, _ => simp only [contM, gA_s (show (13 : Nat) ≠ 5 by decide)]
    | 19, _ => simp only [contM, gA_s (show (14 : Nat) ≠ 5 by decide)]
    | 20, _ => simp only [contM, gA_s (show (15 : Nat) ≠ 5 by decide)]
    | 21, _ => simp only [contM, gA_s (show (16 : Nat) ≠ 5 by decide)]
    | 22, _ => simp only [contM, gA_s (show (17 : Nat) ≠ 5 by decide)]
    | 23, _ => rfl
    | 24, _ => rfl
    | _ + 25, _ => rfl
theorem mpa_6 {f : Nat → Int32} : va_up (contM am cs σ) 7 (.inl (cs.1, 4, .inl (f))) = contM am cs (sA σ 6 f) := by
  refine upm_of ?_ ?_
  · simp only [contM, gA_sA]
  · intro k hk
    match k, hk with
    | 0, _ => rfl
    | 1, _ => simp only [contM, gA_s (show (0 : Nat) ≠ 6 by decide)]
    | 2, _ => simp only [contM, gA_s (show (1 : Nat) ≠ 6 by decide)]
    | 3, _ => simp only [contM, gA_s (show (2 : Nat) ≠ 6 by decide)]
    | 4, _ => simp only [contM, gA_s (show (3 : Nat) ≠ 6 by decide)]
    | 5, _ => simp only [contM, gA_s (show (4 : Nat) ≠ 6 by decide)]
    | 6, _ => simp only [contM, gA_s (show (5 : Nat) ≠ 6 by decide)]
    | 7, hk => exact absurd rfl hk
    | 8, _ => rfl
    | 9, _ => rfl
    | 10, _ => simp only [contM, gA_s (show (7 : Nat) ≠ 6 by decide)]
    | 11, _ => simp only [contM, gA_s (show (8 : Nat) ≠ 6 by decide)]
    | 12, _ => simp only [contM, gA_s (show (9 : Nat) ≠ 6 by decide)]
    | 13, _ => simp only [contM, gA_s (show (10 : Nat) ≠ 6 by decide)]
    | 14, _ => rfl
    | 15, _ => rfl
    | 16, _ => simp only [contM, gA_s (show (11 : Nat) ≠ 6 by decide)]
    | 17, _ => simp only [contM, gA_s (show (12 : Nat) ≠ 6 by decide)]
    | 18, _ => simp only [contM, gA_s (show (13 : Nat) ≠ 6 by decide)]
    | 19, _ => simp only [contM, gA_s (show (14 : Nat) ≠ 6 by decide)]
    | 20, _ => simp only [contM, gA_s (show (15 : Nat) ≠ 6 by decide)]
    | 21, _ => simp only [contM, gA_s (show (16 : Nat) ≠ 6 by decide)]
    | 22, _ => simp only [contM, gA_s (show (17 : Nat) ≠ 6 by decide)]
    | 23, _ => rfl
    | 24, _ => rfl
    | _ + 25, _ => rfl
theorem mpd_0 {f : Nat → UInt64} : va_up (contM am cs σ) 8 (.inl (cs.2.1, 8, .inr (.inr (.inr (.inl (f)))))) = contM am cs (sD σ 0 f) := by
  refine upm_of ?_ ?_
  · simp only [contM, gD_sD]
  · intro k hk
    match k, hk with
    | 0, _ => rfl
    | 1, _ => rfl
    | 2, _ => rfl
    | 3, _ => rfl
    | 4, _ => rfl
    | 5, _ => rfl
    | 6, _ => rfl
    | 7, _ => rfl
    | 8, hk => exact absurd rfl hk
    | 9, _ => simp only [contM, gD_s (show (1 : Nat) ≠ 0 by decide)]
    | 10, _ => rfl
    | 11, _ => rfl
    | 12, _ => rfl
    | 13, _ => rfl
    | 14, _ => simp only [contM, gD_s (show (2 : Nat) ≠ 0 by decide)]
    | 15, _ => simp only [contM, gD_s (show (3 : Nat) ≠ 0 by decide)]
    | 16, _ => rfl
    | 17, _ => rfl
    | 18, _ => rfl
    | 19, _ => rfl
    | 20, _ => rfl
    | 21, _ => rfl
    | 22, _ => rfl
    | 23, _ => simp only [contM, gD_s (show (4 : Nat) ≠ 0 by decide)]
    | 24, _ => simp only [contM, gD_s (show (5 : Nat) ≠ 0 by decide)]
    | _ + 25, _ => rfl
theorem mpd_1 {f : Nat → UInt64} : va_up (contM am cs σ) 9 (.inl (cs.2.1, 25, .inr (.inr (.inr (.inl (f)))))) = contM am cs (sD σ 1 f) := by
  refine upm_of ?_ ?_
  · simp only [contM, gD_sD]
  · intro k hk
    match k, hk with
    | 0, _ => rfl
    | 1, _ => rfl
    | 2, _ => rfl
    | 3, _ => rfl
    | 4, _ => rfl
    | 5, _ => rfl
    | 6, _ => rfl
    | 7, _ => rfl
    | 8, _ => simp only [contM, gD_s (show (0 : Nat) ≠ 1 by decide)]
    | 9, hk => exact absurd rfl hk
    | 10, _ => rfl
    | 11, _ => rfl
    | 12, _ => rfl
    | 13, _ => rfl
    | 14, _ => simp only [contM, gD_s (show (2 : Nat) ≠ 1 by decide)]
    | 15, _ => simp only [contM, gD_s (show (3 : Nat) ≠ 1 by decide)]
    | 16, _ => rfl
    | 17, _ => rfl
    | 18, _ => rfl
    | 19, _ => rfl
    | 20, _ => rfl
    | 21, _ => rfl
    | 22, _ => rfl
    | 23, _ => simp only [contM, gD_s (show (4 : Nat) ≠ 1 by decide)]
    | 24, _ => simp only [contM, gD_s (show (5 : Nat) ≠ 1 by decide)]
    | _ + 25, _ => rfl
theorem mpa_7 {f : Nat → Int32} : va_up (contM am cs σ) 10 (.inl (cs.1, 20, .inl (f))) = contM am cs (sA σ 7 f) := by
  refine upm_of ?_ ?_
  · simp only [contM, gA_sA]
  · intro k hk
    match k, hk with
    | 0, _ => rfl
    | 1, _ => simp only [contM, gA_s (show (0 : Nat) ≠ 7 by decide)]
    | 2, _ => simp only [contM, gA_s (show (1 : Nat) ≠ 7 by decide)]
    | 3, _ => simp only [contM, gA_s (show (2 : Nat) ≠ 7 by decide)]
    | 4, _ => simp only [contM, gA_s (show (3 : Nat) ≠ 7 by decide)]
    | 5, _ => simp only [contM, gA_s (show (4 : Nat) ≠ 7 by decide)]
    | 6, _ => simp only [contM, gA_s (show (5 : Nat) ≠ 7 by decide)]
    | 7, _ => simp only [contM, gA_s (show (6 : Nat) ≠ 7 by decide)]
    | 8, _ => rfl
    | 9, _ => rfl
    | 10, hk => exact absurd rfl hk
    | 11, _ => simp only [contM, gA_s (show (8 : Nat) ≠ 7 by decide)]
    | 12, _ => simp only [contM, gA_s (show (9 : Nat) ≠ 7 by decide)]
    | 13, _ => simp only [contM, gA_s (show (10 : Nat) ≠ 7 by decide)]
    | 14, _ => rfl
    | 15, _ => rfl
    | 16, _ => simp only [contM, gA_s (show (11 : Nat) ≠ 7 by decide)]
    | 17, _ => simp only [contM, gA_s (show (12 : Nat) ≠ 7 by decide)]
    | 18, _ => simp only [contM, gA_s (show (13 : Nat) ≠ 7 by decide)]
    | 19, _ => simp only [contM, gA_s (show (14 : Nat) ≠ 7 by decide)]
    | 20, _ => simp only [contM, gA_s (show (15 : Nat) ≠ 7 by decide)]
    | 21, _ => simp only [contM, gA_s (show (16 : Nat) ≠ 7 by decide)]
    | 22, _ => simp only [contM, gA_s (show (17 : Nat) ≠ 7 by decide)]
    | 23, _ => rfl
    | 24, _ => rfl
    | _ + 25, _ => rfl
theorem mpa_8 {f : Nat → Int32} : va_up (contM am cs σ) 11 (.inl (cs.1, 20, .inl (f))) = contM am cs (sA σ 8 f) := by
  refine upm_of ?_ ?_
  · simp only [contM, gA_sA]
  · intro k hk
    match k, hk with
    | 0, _ => rfl
    | 1, _ => simp only [contM, gA_s (show (0 : Nat) ≠ 8 by decide)]
    | 2, _ => simp only [contM, gA_s (show (1 : Nat) ≠ 8 by decide)]
    | 3, _ => simp only [contM, gA_s (show (2 : Nat) ≠ 8 by decide)]
    | 4, _ => simp only [contM, gA_s (show (3 : Nat) ≠ 8 by decide)]
    | 5, _ => simp only [contM, gA_s (show (4 : Nat) ≠ 8 by decide)]
    | 6, _ => simp only [contM, gA_s (show (5 : Nat) ≠ 8 by decide)]
    | 7, _ => simp only [contM, gA_s (show (6 : Nat) ≠ 8 by decide)]
    | 8, _ => rfl
    | 9, _ => rfl
    | 10, _ => simp only [contM, gA_s (show (7 : Nat) ≠ 8 by decide)]
    | 11, hk => exact absurd rfl hk
    | 12, _ => simp only [contM, gA_s (show (9 : Nat) ≠ 8 by decide)]
    | 13, _ => simp only [contM, gA_s (show (10 : Nat) ≠ 8 by decide)]
    | 14, _ => rfl
    | 15, _ => rfl
    | 16, _ => simp only [contM, gA_s (show (11 : Nat) ≠ 8 by decide)]
    | 17, _ => simp only [contM, gA_s (show (12 : Nat) ≠ 8 by decide)]
    | 18, _ => simp only [contM, gA_s (show (13 : Nat) ≠ 8 by decide)]
    | 19, _ => simp only [contM, gA_s (show (14 : Nat) ≠ 8 by decide)]
    | 20, _ => simp only [contM, gA_s (show (15 : Nat) ≠ 8 by decide)]
    | 21, _ => simp only [contM, gA_s (show (16 : Nat) ≠ 8 by decide)]
    | 22, _ => simp only [contM, gA_s (show (17 : Nat) ≠ 8 by decide)]
    | 23, _ => rfl
    | 24, _ => rfl
    | _ + 25, _ => rfl
theorem mpa_9 {f : Nat → Int32} : va_up (contM am cs σ) 12 (.inl (cs.1, 10, .inl (f))) = contM am cs (sA σ 9 f) := by
  refine upm_of ?_ ?_
  · simp only [contM, gA_sA]
  · intro k hk
    match k, hk with
    | 0, _ => rfl
    | 1, _ => simp only [contM, gA_s (show (0 : Nat) ≠ 9 by decide)]
    | 2, _ => simp only [contM, gA_s (show (1 : Nat) ≠ 9 by decide)]
    | 3, _ => simp only [contM, gA_s (show (2 : Nat) ≠ 9 by decide)]
    | 4, _ => simp only [contM, gA_s (show (3 : Nat) ≠ 9 by decide)]
    | 5, _ => simp only [contM, gA_s (show (4 : Nat) ≠ 9 by decide)]
    | 6, _ => simp only [contM, gA_s (show (5 : Nat) ≠ 9 by decide)]
    | 7, _ => simp only [contM, gA_s (show (6 : Nat) ≠ 9 by decide)]
    | 8, _ => rfl
    | 9, _ => rfl
    | 10, _ => simp only [contM, gA_s (show (7 : Nat) ≠ 9 by decide)]
    | 11, _ => simp only [contM, gA_s (show (8 : Nat) ≠ 9 by decide)]
    | 12, hk => exact absurd rfl hk
    | 13, _ => simp only [contM, gA_s (show (10 : Nat) ≠ 9 by decide)]
    | 14, _ => rfl
    | 15, _ => rfl
    | 16, _ => simp only [contM, gA_s (show (11 : Nat) ≠ 9 by decide)]
    | 17, _ => simp only [contM, gA_s (show (12 : Nat) ≠ 9 by decide)]
    | 18, _ => simp only [contM, gA_s (show (13 : Nat) ≠ 9 by decide)]
    | 19, _ => simp only [contM, gA_s (show (14 : Nat) ≠ 9 by decide)]
    | 20, _ => simp only [contM, gA_s (show (15 : Nat) ≠ 9 by decide)]
    | 21, _ => simp only [contM, gA_s (show (16 : Nat) ≠ 9 by decide)]
    | 22, _ => simp only [contM, gA_s (show (17 : Nat) ≠ 9 by decide)]
    | 23, _ => rfl
    | 24, _ => rfl
    | _ + 25, _ => rfl
theorem mpa_10 {f : Nat → Int32} : va_up (contM am cs σ) 13 (.inl (cs.1, 10, .inl (f))) = contM am cs (sA σ 10 f) := by
  refine upm_of ?_ ?_
  · simp only [contM, gA_sA]
  · intro k hk
    match k, hk with
    | 0, _ => rfl
    | 1, _ => simp only [contM, gA_s (show (0 : Nat) ≠ 10 by decide)]
    | 2, _ => simp only [contM, gA_s (show (1 : Nat) ≠ 10 by decide)]
    | 3, _ => simp only [contM, gA_s (show (2 : Nat) ≠ 10 by decide)]
    | 4, _ => simp only [contM, gA_s (show (3 : Nat) ≠ 10 by decide)]
    | 5, _ => simp only [contM, gA_s (show (4 : Nat) ≠ 10 by decide)]
    | 6, _ => simp only [contM, gA_s (show (5 : Nat) ≠ 10 by decide)]
    | 7, _ => simp only [contM, gA_s (show (6 : Nat) ≠ 10 by decide)]
    | 8, _ => rfl
    | 9, _ => rfl
    | 10, _ => simp only [contM, gA_s (show (7 : Nat) ≠ 10 by decide)]
    | 11, _ => simp only [contM, gA_s (show (8 : Nat) ≠ 10 by decide)]
    | 12, _ => simp only [contM, gA_s (show (9 : Nat) ≠ 10 by decide)]
    | 13, hk => exact absurd rfl hk
    | 14, _ => rfl
    | 15, _ => rfl
    | 16, _ => simp only [contM, gA_s (show (11 : Nat) ≠ 10 by decide)]
    | 17, _ => simp only [contM, gA_s (show (12 : Nat) ≠ 10 by decide)]
    | 18, _ => simp only [contM, gA_s (show (13 : Nat) ≠ 10 by decide)]
    | 19, _ => simp only [contM, gA_s (show (14 : Nat) ≠ 10 by decide)]
    | 20, _ => simp only [contM, gA_s (show (15 : Nat) ≠ 10 by decide)]
    | 21, _ => simp only [contM, gA_s (show (16 : Nat) ≠ 10 by decide)]
    | 22, _ => simp only [contM, gA_s (show (17 : Nat) ≠ 10 by decide)]
    | 23, _ => rfl
    | 24, _ => rfl
    | _ + 25, _ => rfl
theorem mpd_2 {f : Nat → UInt64} : va_up (contM am cs σ) 14 (.inl (cs.2.1, 20, .inr (.inr (.inr (.inl (f)))))) = contM am cs (sD σ 2 f) := by
  refine upm_of ?_ ?_
  · simp only [contM, gD_sD]
  · intro k hk
    match k, hk with
    | 0, _ => rfl
    | 1, _ => rfl
    | 2, _ => rfl
    | 3, _ => rfl
    | 4, _ => rfl
    | 5, _ => rfl
    | 6, _ => rfl
    | 7, _ => rfl
    | 8, _ => simp only [contM, gD_s (show (0 : Nat) ≠ 2 by decide)]
    | 9, _ => simp only [contM, gD_s (show (1 : Nat) ≠ 2 by decide)]
    | 10, _ => rfl
    | 11, _ => rfl
    | 12, _ => rfl
    | 13, _ => rfl
    | 14, hk => exact absurd rfl hk
    | 15, _ => simp only [contM, gD_s (show (3 : Nat) ≠ 2 by decide)]
    | 16, _ => rfl
    | 17, _ => rfl
    | 18, _ => rfl
    | 19, _ => rfl
    | 20, _ => rfl
    | 21, _ => rfl
    | 22, _ => rfl
    | 23, _ => simp only [contM, gD_s (show (4 : Nat) ≠ 2 by decide)]
    | 24, _ => simp only [contM, gD_s (show (5 : Nat) ≠ 2 by decide)]
    | _ + 25, _ => rfl
theorem mpd_3 {f : Nat → UInt64} : va_up (contM am cs σ) 15 (.inl (cs.2.1, 20, .inr (.inr (.inr (.inl (f)))))) = contM am cs (sD σ 3 f) := by
  refine upm_of ?_ ?_
  · simp only [contM, gD_sD]
  · intro k hk
    match k, hk with
    | 0, _ => rfl
    | 1, _ => rfl
    | 2, _ => rfl
    | 3, _ => rfl
    | 4, _ => rfl
    | 5, _ => rfl
    | 6, _ => rfl
    | 7, _ => rfl
    | 8, _ => simp only [contM, gD_s (show (0 : Nat) ≠ 3 by decide)]
    | 9, _ => simp only [contM, gD_s (show (1 : Nat) ≠ 3 by decide)]
    | 10, _ => rfl
    | 11, _ => rfl
    | 12, _ => rfl
    | 13, _ => rfl
    | 14, _ => simp only [contM, gD_s (show (2 : Nat) ≠ 3 by decide)]
    | 15, hk => exact absurd rfl hk
    | 16, _ => rfl
    | 17, _ => rfl
    | 18, _ => rfl
    | 19, _ => rfl
    | 20, _ => rfl
    | 21, _ => rfl
    | 22, _ => rfl
    | 23, _ => simp only [contM, gD_s (show (4 : Nat) ≠ 3 by decide)]
    | 24, _ => simp only [contM, gD_s (show (5 : Nat) ≠ 3 by decide)]
    | _ + 25, _ => rfl
theorem mpa_11 {f : Nat → Int32} : va_up (contM am cs σ) 16 (.inl (cs.1, 310, .inl (f))) = contM am cs (sA σ 11 f) := by
  refine upm_of ?_ ?_
  · simp only [contM, gA_sA]
  · intro k hk
    match k, hk with
    | 0, _ => rfl
    | 1, _ => simp only [contM, gA_s (show (0 : Nat) ≠ 11 by decide)]
    | 2, _ => simp only [contM, gA_s (show (1 : Nat) ≠ 11 by decide)]
    | 3, _ => simp only [contM, gA_s (show (2 : Nat) ≠ 11 by decide)]
    | 4, _ => simp only [contM, gA_s (show (3 : Nat) ≠ 11 by decide)]
    | 5, _ => simp only [contM, gA_s (show (4 : Nat) ≠ 11 by decide)]
    | 6, _ => simp only [contM, gA_s (show (5 : Nat) ≠ 11 by decide)]
    | 7, _ => simp only [contM, gA_s (show (6 : Nat) ≠ 11 by decide)]
    | 8, _ => rfl
    | 9, _ => rfl
    | 10, _ => simp only [contM, gA_s (show (7 : Nat) ≠ 11 by decide)]
    | 11, _ => simp only [contM, gA_s (show (8 : Nat) ≠ 11 by decide)]
    | 12, _ => simp only [contM, gA_s (show (9 : Nat) ≠ 11 by decide)]
    | 13, _ => simp only [contM, gA_s (show (10 : Nat) ≠ 11 by decide)]
    | 14, _ => rfl
    | 15, _ => rfl
    | 16, hk => exact absurd rfl hk
    | 17, _ => simp only [contM, gA_s (show (12 : Nat) ≠ 11 by decide)]
    | 18, _ => simp only [contM, gA_s (show (13 : Nat) ≠ 11 by decide)]
    | 19, _ => simp only [contM, gA_s (show (14 : Nat) ≠ 11 by decide)]
    | 20, _ => simp only [contM, gA_s (show (15 : Nat) ≠ 11 by decide)]
    | 21, _ => simp only [contM, gA_s (show (16 : Nat) ≠ 11 by decide)]
    | 22, _ => simp only [contM, gA_s (show (17 : Nat) ≠ 11 by decide)]
    | 23, _ => rfl
    | 24, _ => rfl
    | _ + 25, _ => rfl
theorem mpa_12 {f : Nat → Int32} : va_up (contM am cs σ) 17 (.inl (cs.1, 310, .inl (f))) = contM am cs (sA σ 12 f) := by
  refine upm_of ?_ ?_
  · simp only [contM, gA_sA]
  · intro k hk
    match k, hk with
    | 0, _ => rfl
    | 1, _ => simp only [contM, gA_s (show (0 : Nat) ≠ 12 by decide)]
    | 2, _ => simp only [contM, gA_s (show (1 : Nat) ≠ 12 by decide)]
    | 3, _ => simp only [contM, gA_s (show (2 : Nat) ≠ 12 by decide)]
    | 4, _ => simp only [contM, gA_s (show (3 : Nat) ≠ 12 by decide)]
    | 5, _ => simp only [contM, gA_s (show (4 : Nat) ≠ 12 by decide)]
    | 6, _ => simp only [contM, gA_s (show (5 : Nat) ≠ 12 by decide)]
    | 7, _ => simp only [contM, gA_s (show (6 : Nat) ≠ 12 by decide)]
    | 8, _ => rfl
    | 9, _ => rfl
    | 10, _ => simp only [contM, gA_s (show (7 : Nat) ≠ 12 by decide)]
    | 11, _ => simp only [contM, gA_s (show (8 : Nat) ≠ 12 by decide)]
    | 12, _ => simp only [contM, gA_s (show (9 : Nat) ≠ 12 by decide)]
    | 13, _ => simp only [contM, gA_s (show (10 : Nat) ≠ 12 by decide)]
    | 14, _ => rfl
    | 15, _ => rfl
    | 16, _ => simp only [contM, gA_s (show (11 : Nat) ≠ 12 by decide)]
    | 17, hk => exact absurd rfl hk
    | 18, _ => simp only [contM, gA_s (show (13 : Nat) ≠ 12 by decide)]
    | 19, _ => simp only [contM, gA_s (show (14 : Nat) ≠ 12 by decide)]
    | 20, _ => simp only [contM, gA_s (show (15 : Nat) ≠ 12 by decide)]
    | 21, _ => simp only [contM, gA_s (show (16 : Nat) ≠ 12 by decide)]
    | 22, _ => simp only [contM, gA_s (show (17 : Nat) ≠ 12 by decide)]
    | 23, _ => rfl
    | 24, _ => rfl
    | _ + 25, _ => rfl
theorem mpa_13 {f : Nat → Int32} : va_up (contM am cs σ) 18 (.inl (cs.1, 310, .inl (f))) = contM am cs (sA σ 13 f) := by
  refine upm_of ?_ ?_
  · simp only [contM, gA_sA]
  · intro k hk
    match k, hk with
    | 0, _ => rfl
    | 1, _ => simp only [contM, gA_s (show (0 : Nat) ≠ 13 by decide)]
    | 2, _ => simp only [contM, gA_s (show (1 : Nat) ≠ 13 by decide)]
    | 3, _ => simp only [contM, gA_s (show (2 : Nat) ≠ 13 by decide)]
    | 4, _ => simp only [contM, gA_s (show (3 : Nat) ≠ 13 by decide)]
    | 5, _ => simp only [contM, gA_s (show (4 : Nat) ≠ 13 by decide)]
    | 6, _ => simp only [contM, gA_s (show (5 : Nat) ≠ 13 by decide)]
    | 7, _ => simp only [contM, gA_s (show (6 : Nat) ≠ 13 by decide)]
    | 8, _ => rfl
    | 9, _ => rfl
    | 10, _ => simp only [contM, gA_s (show (7 : Nat) ≠ 13 by decide)]
    | 11, _ => simp only [contM, gA_s (show (8 : Nat) ≠ 13 by decide)]
    | 12, _ => simp only [contM, gA_s (show (9 : Nat) ≠ 13 by decide)]
    | 13, _ => simp only [contM, gA_s (show (10 : Nat) ≠ 13 by decide)]
    | 14, _ => rfl
    | 15, _ => rfl
    | 16, _ => simp only [contM, gA_s (show (11 : Nat) ≠ 13 by decide)]
    | 17, _ => simp only [contM, gA_s (show (12 : Nat) ≠ 13 by decide)]
    | 18, hk => exact absurd rfl hk
    | 19, _ => simp only [contM, gA_s (show (14 : Nat) ≠ 13 by decide)]
    | 20, _ => simp only [contM, gA_s (show (15 : Nat) ≠ 13 by decide)]
    | 21, _ => simp only [contM, gA_s (show (16 : Nat) ≠ 13 by decide)]
    | 22, _ => simp only [contM, gA_s (show (17 : Nat) ≠ 13 by decide)]
    | 23, _ => rfl
    | 24, _ => rfl
    | _ + 25, _ => rfl
theorem mpa_14 {f : Nat → Int32} : va_up (contM am cs σ) 19 (.inl (cs.1, 310, .inl (f))) = contM am cs (sA σ 14 f) := by
  refine upm_of ?_ ?_
  · simp only [contM, gA_sA]
  · intro k hk
    match k, hk with
    | 0, _ => rfl
    | 1, _ => simp only [contM, gA_s (show (0 : Nat) ≠ 14 by decide)]
    | 2, _ => simp only [contM, gA_s (show (1 : Nat) ≠ 14 by decide)]
    | 3, _ => simp only [contM, gA_s (show (2 : Nat) ≠ 14 by decide)]
    | 4, _ => simp only [contM, gA_s (show (3 : Nat) ≠ 14 by decide)]
    | 5, _ => simp only [contM, gA_s (show (4 : Nat) ≠ 14 by decide)]
    | 6, _ => simp only [contM, gA_s (show (5 : Nat) ≠ 14 by decide)]
    | 7, _ => simp only [contM, gA_s (show (6 : Nat) ≠ 14 by decide)]
    | 8, _ => rfl
    | 9, _ => rfl
    | 10, _ => simp only [contM, gA_s (show (7 : Nat) ≠ 14 by decide)]
    | 11, _ => simp only [contM, gA_s (show (8 : Nat) ≠ 14 by decide)]
    | 12, _ => simp only [contM, gA_s (show (9 : Nat) ≠ 14 by decide)]
    | 13, _ => simp only [contM, gA_s (show (10 : Nat) ≠ 14 by decide)]
    | 14, _ => rfl
    | 15, _ => rfl
    | 16, _ => simp only [contM, gA_s (show (11 : Nat) ≠ 14 by decide)]
    | 17, _ => simp only [contM, gA_s (show (12 : Nat) ≠ 14 by decide)]
    | 18, _ => simp only [contM, gA_s (show (13 : Nat) ≠ 14 by decide)]
    | 19, hk => exact absurd rfl hk
    | 20, _ => simp only [contM, gA_s (show (15 : Nat) ≠ 14 by decide)]
    | 21, _ => simp only [contM, gA_s (show (16 : Nat) ≠ 14 by decide)]
    | 22, _ => simp only [contM, gA_s (show (17 : Nat) ≠ 14 by decide)]
    | 23, _ => rfl
    | 24, _ => rfl
    | _ + 25, _ => rfl
theorem mpa_15 {f : Nat → Int32} : va_up (contM am cs σ) 20 (.inl (cs.1, 310, .inl (f))) = contM am cs (sA σ 15 f) := by
  refine upm_of ?_ ?_
  · simp only [contM, gA_sA]
  · intro k hk
    match k, hk with
    | 0, _ => rfl
    | 1, _ => simp only [contM, gA_s (show (0 : Nat) ≠ 15 by decide)]
    | 2, _ => simp only [contM, gA_s (show (1 : Nat) ≠ 15 by decide)]
    | 3, _ => simp only [contM, gA_s (show (2 : Nat) ≠ 15 by decide)]
    | 4, _ => simp only [contM, gA_s (show (3 : Nat) ≠ 15 by decide)]
    | 5, _ => simp only [contM, gA_s (show (4 : Nat) ≠ 15 by decide)]
    | 6, _ => simp only [contM, gA_s (show (5 : Nat) ≠ 15 by decide)]
    | 7, _ => simp only [contM, gA_s (show (6 : Nat) ≠ 15 by decide)]
    | 8, _ => rfl
    | 9, _ => rfl
    | 10, _ => simp only [contM, gA_s (show (7 : Nat) ≠ 15 by decide)]
    | 11, _ => simp only [contM, gA_s (show (8 : Nat) ≠ 15 by decide)]
    | 12, _ => simp only [contM, gA_s (show (9 : Nat) ≠ 15 by decide)]
    | 13, _ => simp only [contM, gA_s (show (10 : Nat) ≠ 15 by decide)]
    | 14, _ => rfl
    | 15, _ => rfl
    | 16, _ => simp only [contM, gA_s (show (11 : Nat) ≠ 15 by decide)]
    | 17, _ => simp only [contM, gA_s (show (12 : Nat) ≠ 15 by decide)]
    | 18, _ => simp only [contM, gA_s (show (13 : Nat) ≠ 15 by decide)]
    | 19, _ => simp only [contM, gA_s (show (14 : Nat) ≠ 15 by decide)]
    | 20, hk => exact absurd rfl hk
    | 21, _ => simp only [contM, gA_s (show (16 : Nat) ≠ 15 by decide)]
    | 22, _ => simp only [contM, gA_s (show (17 : Nat) ≠ 15 by decide)]
    | 23, _ => rfl
    | 24, _ => rfl
    | _ + 25, _ => rfl
theorem mpa_16 {f : Nat → Int32} : va_up (contM am cs σ) 21 (.inl (cs.1, 310, .inl (f))) = contM am cs (sA σ 16 f) := by
  refine upm_of ?_ ?_
  · simp only [contM, gA_sA]
  · intro k hk
    match k, hk with
    | 0, _ => rfl
    | 1, _ => simp only [contM, gA_s (show (0 : Nat) ≠ 16 by decide)]
    | 2, _ => simp only [contM, gA_s (show (1 : Nat) ≠ 16 by decide)]
    | 3, _ => simp only [contM, gA_s (show (2 : Nat) ≠ 16 by decide)]
    | 4, _ => simp only [contM, gA_s (show (3 : Nat) ≠ 16 by decide)]
    | 5, _ => simp only [contM, gA_s (show (4 : Nat) ≠ 16 by decide)]
    | 6, _ => simp only [contM, gA_s (show (5 : Nat) ≠ 16 by decide)]
    | 7, _ => simp only [contM, gA_s (show (6 : Nat) ≠ 16 by decide)]
    | 8, _ => rfl
    | 9, _ => rfl
    | 10, _ => simp only [contM, gA_s (show (7 : Nat) ≠ 16 by decide)]
    | 11, _ => simp only [contM, gA_s (show (8 : Nat) ≠ 16 by decide)]
    | 12, _ => simp only [contM, gA_s (show (9 : Nat) ≠ 16 by decide)]
    | 13, _ => simp only [contM, gA_s (show (10 : Nat) ≠ 16 by decide)]
    | 14, _ => rfl
    | 15, _ => rfl
    | 16, _ => simp only [contM, gA_s (show (11 : Nat) ≠ 16 by decide)]
    | 17, _ => simp only [contM, gA_s (show (12 : Nat) ≠ 16 by decide)]
    | 18, _ => simp only [contM, gA_s (show (13 : Nat) ≠ 16 by decide)]
    | 19, _ => simp only [contM, gA_s (show (14 : Nat) ≠ 16 by decide)]
    | 20, _ => simp only [contM, gA_s (show (15 : Nat) ≠ 16 by decide)]
    | 21, hk => exact absurd rfl hk
    | 22, _ => simp only [contM, gA_s (show (17 : Nat) ≠ 16 by decide)]
    | 23, _ => rfl
    | 24, _ => rfl
    | _ + 25, _ => rfl
theorem mpa_17 {f : Nat → Int32} : va_up (contM am cs σ) 22 (.inl (cs.1, 310, .inl (f))) = contM am cs (sA σ 17 f) := by
  refine upm_of ?_ ?_
  · simp only [contM, gA_sA]
  · intro k hk
    match k, hk with
    | 0, _ => rfl
    | 1, _ => simp only [contM, gA_s (show (0 : Nat) ≠ 17 by decide)]
    | 2, _ => simp only [contM, gA_s (show (1 : Nat) ≠ 17 by decide)]
    | 3, _ => simp only [contM, gA_s (show (2 : Nat) ≠ 17 by decide)]
    | 4, _ => simp only [contM, gA_s (show (3 : Nat) ≠ 17 by decide)]
    | 5, _ => simp only [contM, gA_s (show (4 : Nat) ≠ 17 by decide)]
    | 6, _ => simp only [contM, gA_s (show (5 : Nat) ≠ 17 by decide)]
    | 7, _ => simp only [contM, gA_s (show (6 : Nat) ≠ 17 by decide)]
    | 8, _ => rfl
    | 9, _ => rfl
    | 10, _ => simp only [contM, gA_s (show (7 : Nat) ≠ 17 by decide)]
    | 11, _ => simp only [contM, gA_s (show (8 : Nat) ≠ 17 by decide)]
    | 12, _ => simp only [contM, gA_s (show (9 : Nat) ≠ 17 by decide)]
    | 13, _ => simp only [contM, gA_s (show (10 : Nat) ≠ 17 by decide)]
    | 14, _ => rfl
    | 15, _ => rfl
    | 16, _ => simp only [contM, gA_s (show (11 : Nat) ≠ 17 by decide)]
    | 17, _ => simp only [contM, gA_s (show (12 : Nat) ≠ 17 by decide)]
    | 18, _ => simp only [contM, gA_s (show (13 : Nat) ≠ 17 by decide)]
    | 19, _ => simp only [contM, gA_s (show (14 : Nat) ≠ 17 by decide)]
    | 20, _ => simp only [contM, gA_s (show (15 : Nat) ≠ 17 by decide)]
    | 21, _ => simp only [contM, gA_s (show (16 : Nat) ≠ 17 by decide)]
    | 22, hk => exact absurd rfl hk
    | 23, _ => rfl
    | 24, _ => rfl
    | _ + 25, _ => rfl
theorem mpd_4 {f : Nat → UInt64} : va_up (contM am cs σ) 23 (.inl (cs.2.1, 310, .inr (.inr (.inr (.inl (f)))))) = contM am cs (sD σ 4 f) := by
  refine upm_of ?_ ?_
  · simp only [contM, gD_sD]
  · intro k hk
    match k, hk with
    | 0, _ => rfl
    | 1, _ => rfl
    | 2, _ => rfl
    | 3, _ => rfl
    | 4, _ => rfl
    | 5, _ => rfl
    | 6, _ => rfl
    | 7, _ => rfl
    | 8, _ => simp only [contM, gD_s (show (0 : Nat) ≠ 4 by decide)]
    | 9, _ => simp only [contM, gD_s (show (1 : Nat) ≠ 4 by decide)]
    | 10, _ => rfl
    | 11, _ => rfl
    | 12, _ => rfl
    | 13, _ => rfl
    | 14, _ => simp only [contM, gD_s (show (2 : Nat) ≠ 4 by decide)]
    | 15, _ => simp only [contM, gD_s (show (3 : Nat) ≠ 4 by decide)]
    | 16, _ => rfl
    | 17, _ => rfl
    | 18, _ => rfl
    | 19, _ => rfl
    | 20, _ => rfl
    | 21, _ => rfl
    | 22, _ => rfl
    | 23, hk => exact absurd rfl hk
    | 24, _ => simp only [contM, gD_s (show (5 : Nat) ≠ 4 by decide)]
    | _ + 25, _ => rfl
theorem mpd_5 {f : Nat → UInt64} : va_up (contM am cs σ) 24 (.inl (cs.2.1, 310, .inr (.inr (.inr (.inl (f)))))) = contM am cs (sD σ 5 f) := by
  refine upm_of ?_ ?_
  · simp only [contM, gD_sD]
  · intro k hk
    match k, hk with
    | 0, _ => rfl
    | 1, _ => rfl
    | 2, _ => rfl
    | 3, _ => rfl
    | 4, _ => rfl
    | 5, _ => rfl
    | 6, _ => rfl
    | 7, _ => rfl
    | 8, _ => simp only [contM, gD_s (show (0 : Nat) ≠ 5 by decide)]
    | 9, _ => simp only [contM, gD_s (show (1 : Nat) ≠ 5 by decide)]
    | 10, _ => rfl
    | 11, _ => rfl
    | 12, _ => rfl
    | 13, _ => rfl
    | 14, _ => simp only [contM, gD_s (show (2 : Nat) ≠ 5 by decide)]
    | 15, _ => simp only [contM, gD_s (show (3 : Nat) ≠ 5 by decide)]
    | 16, _ => rfl
    | 17, _ => rfl
    | 18, _ => rfl
    | 19, _ => rfl
    | 20, _ => rfl
    | 21, _ => rfl
    | 22, _ => rfl
    | 23, _ => simp only [contM, gD_s (show (4 : Nat) ≠ 5 by decide)]
    | 24, hk => exact absurd rfl hk
    | _ + 25, _ => rfl
end CM
/-- the reference's world holds the state σ -/
abbrev mP (D : va_G) (cs : CI) (am : Nat → Nat) (σ : CS) (U : State) : Prop := va_P D clA (wd am (contM am cs σ) 25) U.heap ∧ va_K D clA (tyC cs) U ∧ NW U
theorem mP_blind {D : va_G} {cs : CI} {am : Nat → Nat} {σ : CS} {av : List Value} : FrameBlind (va_Pc av (mP D cs am σ)) :=
  fun a U g mk h => ⟨h.1, h.2.1, va_K.moved (u := U) (U := U.calling g mk a) (Vm.Alike.refl U.vm) h.2.2.1, h.2.2.2.same rfl⟩
