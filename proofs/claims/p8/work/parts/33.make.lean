def nOK (k a b c : Int32) : Prop :=
  (k = 1 → vp_in a 8) ∧ (k = 10 → vp_in a 2) ∧ (k = 11 → vp_in a 2) ∧ (k = 12 → vp_in a 4 ∧ (b = -1 ∨ vp_in b 48) ∧ (c = -1 ∨ vp_in c 48)) ∧
  (k = 16 → vp_in a 4) ∧ (k = 17 → vp_in a 4 ∧ vp_in b 48) ∧ (k = 9 → vp_in c 48) ∧
  (k ≠ 0 → k ≠ 1 → k ≠ 10 → k ≠ 11 → k ≠ 12 → k ≠ 16 → k ≠ 17 → vp_in a 48 ∧ vp_in b 48) ∧ vp_in k 18
section MAKE2
variable {σ τ : CS}
theorem i18 {k : Int32} (h : Bl k 18) : vp_in k 18 := h.inn rfl
theorem nok_0 {a b c : Int32} (j : JJ σ τ) (h : Fit σ 0 a b c) : nOK 0 a (b' 0 b) (c' 0 c) := by
  rw [(show b' 0 b = -1 from if_pos so0.2.1), (show c' 0 c = -1 from if_pos so0.2.2)]
  exact ⟨(fun e => absurd e (by decide)), (fun e => absurd e (by decide)), (fun e => absurd e (by decide)), (fun e => absurd e (by decide)), (fun e => absurd e (by decide)), (fun e => absurd e (by decide)), (fun e => absurd e (by decide)), (fun h0 h1 h10 h11 h12 h16 h17 => absurd rfl h0), (by unfold vp_in; decide)⟩
theorem nok_1 {a b c : Int32} (j : JJ σ τ) (h : Fit σ 1 a b c) : nOK 1 a (b' 1 b) (c' 1 c) := by
  rw [(show b' 1 b = -1 from if_pos so1.2.1), (show c' 1 c = -1 from if_pos so1.2.2)]
  have y : vp_in a 8 := ((fit_s (by unfold vp_in; decide) so1 (by decide) (by decide) (by decide) (by decide)).mp h).inn rfl
  exact ⟨(fun _ => y), (fun e => absurd e (by decide)), (fun e => absurd e (by decide)), (fun e => absurd e (by decide)), (fun e => absurd e (by decide)), (fun e => absurd e (by decide)), (fun e => absurd e (by decide)), (fun h0 h1 h10 h11 h12 h16 h17 => absurd rfl h1), (by unfold vp_in; decide)⟩
theorem nok_2 {a b c : Int32} (j : JJ σ τ) (h : Fit σ 2 a b c) : nOK 2 a (b' 2 b) (c' 2 c) := by
  rw [(show b' 2 b = b from if_neg (by rw [(so2 2 (by decide)).2.1]; decide)), (show c' 2 c = -1 from if_pos (so2 2 (by decide)).2.2)]
  have y := (fit_2 (by unfold vp_in; decide) (so2 2 (by decide))).mp h
  exact ⟨(fun e => absurd e (by decide)), (fun e => absurd e (by decide)), (fun e => absurd e (by decide)), (fun e => absurd e (by decide)), (fun e => absurd e (by decide)), (fun e => absurd e (by decide)), (fun e => absurd e (by decide)), (fun _ _ _ _ _ _ _ => ⟨y.1.inn j, y.2.inn j⟩), (by unfold vp_in; decide)⟩
theorem nok_3 {a b c : Int32} (j : JJ σ τ) (h : Fit σ 3 a b c) : nOK 3 a (b' 3 b) (c' 3 c) := by
  rw [(show b' 3 b = b from if_neg (by rw [(so2 3 (by decide)).2.1]; decide)), (show c' 3 c = -1 from if_pos (so2 3 (by decide)).2.2)]
  have y := (fit_2 (by unfold vp_in; decide) (so2 3 (by decide))).mp h
  exact ⟨(fun e => absurd e (by decide)), (fun e => absurd e (by decide)), (fun e => absurd e (by decide)), (fun e => absurd e (by decide)), (fun e => absurd e (by decide)), (fun e => absurd e (by decide)), (fun e => absurd e (by decide)), (fun _ _ _ _ _ _ _ => ⟨y.1.inn j, y.2.inn j⟩), (by unfold vp_in; decide)⟩
theorem nok_4 {a b c : Int32} (j : JJ σ τ) (h : Fit σ 4 a b c) : nOK 4 a (b' 4 b) (c' 4 c) := by
  rw [(show b' 4 b = b from if_neg (by rw [(so2 4 (by decide)).2.1]; decide)), (show c' 4 c = -1 from if_pos (so2 4 (by decide)).2.2)]
  have y := (fit_2 (by unfold vp_in; decide) (so2 4 (by decide))).mp h
  exact ⟨(fun e => absurd e (by decide)), (fun e => absurd e (by decide)), (fun e => absurd e (by decide)), (fun e => absurd e (by decide)), (fun e => absurd e (by decide)), (fun e => absurd e (by decide)), (fun e => absurd e (by decide)), (fun _ _ _ _ _ _ _ => ⟨y.1.inn j, y.2.inn j⟩), (by unfold vp_in; decide)⟩
theorem nok_5 {a b c : Int32} (j : JJ σ τ) (h : Fit σ 5 a b c) : nOK 5 a (b' 5 b) (c' 5 c) := by
  rw [(show b' 5 b = b from if_neg (by rw [(so2 5 (by decide)).2.1]; decide)), (show c' 5 c = -1 from if_pos (so2 5 (by decide)).2.2)]
  have y := (fit_2 (by unfold vp_in; decide) (so2 5 (by decide))).mp h
  exact ⟨(fun e => absurd e (by decide)), (fun e => absurd e (by decide)), (fun e => absurd e (by decide)), (fun e => absurd e (by decide)), (fun e => absurd e (by decide)), (fun e => absurd e (by decide)), (fun e => absurd e (by decide)), (fun _ _ _ _ _ _ _ => ⟨y.1.inn j, y.2.inn j⟩), (by unfold vp_in; decide)⟩
theorem nok_6 {a b c : Int32} (j : JJ σ τ) (h : Fit σ 6 a b c) : nOK 6 a (b' 6 b) (c' 6 c) := by
  rw [(show b' 6 b = b from if_neg (by rw [(so2 6 (by decide)).2.1]; decide)), (show c' 6 c = -1 from if_pos (so2 6 (by decide)).2.2)]
  have y := (fit_2 (by unfold vp_in; decide) (so2 6 (by decide))).mp h
  exact ⟨(fun e => absurd e (by decide)), (fun e => absurd e (by decide)), (fun e => absurd e (by decide)), (fun e => absurd e (by decide)), (fun e => absurd e (by decide)), (fun e => absurd e (by decide)), (fun e => absurd e (by decide)), (fun _ _ _ _ _ _ _ => ⟨y.1.inn j, y.2.inn j⟩), (by unfold vp_in; decide)⟩
theorem nok_7 {a b c : Int32} (j : JJ σ τ) (h : Fit σ 7 a b c) : nOK 7 a (b' 7 b) (c' 7 c) := by
  rw [(show b' 7 b = b from if_neg (by rw [(so2 7 (by decide)).2.1]; decide)), (show c' 7 c = -1 from if_pos (so2 7 (by decide)).2.2)]
  have y := (fit_2 (by unfold vp_in; decide) (so2 7 (by decide))).mp h
  exact ⟨(fun e => absurd e (by decide)), (fun e => absurd e (by decide)), (fun e => absurd e (by decide)), (fun e => absurd e (by decide)), (fun e => absurd e (by decide)), (fun e => absurd e (by decide)), (fun e => absurd e (by decide)), (fun _ _ _ _ _ _ _ => ⟨y.1.inn j, y.2.inn j⟩), (by unfold vp_in; decide)⟩
theorem nok_8 {a b c : Int32} (j : JJ σ τ) (h : Fit σ 8 a b c) : nOK 8 a (b' 8 b) (c' 8 c) := by
  rw [(show b' 8 b = b from if_neg (by rw [(so2 8 (by decide)).2.1]; decide)), (show c' 8 c = -1 from if_pos (so2 8 (by decide)).2.2)]
  have y := (fit_2 (by unfold vp_in; decide) (so2 8 (by decide))).mp h
  exact ⟨(fun e => absurd e (by decide)), (fun e => absurd e (by decide)), (fun e => absurd e (by decide)), (fun e => absurd e (by decide)), (fun e => absurd e (by decide)), (fun e => absurd e (by decide)), (fun e => absurd e (by decide)), (fun _ _ _ _ _ _ _ => ⟨y.1.inn j, y.2.inn j⟩), (by unfold vp_in; decide)⟩
theorem nok_9 {a b c : Int32} (j : JJ σ τ) (h : Fit σ 9 a b c) : nOK 9 a (b' 9 b) (c' 9 c) := by
  rw [(show b' 9 b = b from if_neg (by rw [so9.2.1]; decide)), (show c' 9 c = c from if_neg (by rw [so9.2.2]; decide))]
  have y := fit_9.mp h
  exact ⟨(fun e => absurd e (by decide)), (fun e => absurd e (by decide)), (fun e => absurd e (by decide)), (fun e => absurd e (by decide)), (fun e => absurd e (by decide)), (fun e => absurd e (by decide)), (fun _ => y.2.2.inn j), (fun _ _ _ _ _ _ _ => ⟨y.1.inn j, y.2.1.inn j⟩), (by unfold vp_in; decide)⟩
theorem nok_10 {a b c : Int32} (j : JJ σ τ) (h : Fit σ 10 a b c) : nOK 10 a (b' 10 b) (c' 10 c) := by
  rw [(show b' 10 b = -1 from if_pos so10.2.1), (show c' 10 c = -1 from if_pos so10.2.2)]
  have y : vp_in a 2 := ((fit_s (by unfold vp_in; decide) so10 (by decide) (by decide) (by decide) (by decide)).mp h).inn rfl
  exact ⟨(fun e => absurd e (by decide)), (fun _ => y), (fun e => absurd e (by decide)), (fun e => absurd e (by decide)), (fun e => absurd e (by decide)), (fun e => absurd e (by decide)), (fun e => absurd e (by decide)), (fun h0 h1 h10 h11 h12 h16 h17 => absurd rfl h10), (by unfold vp_in; decide)⟩
theorem nok_11 {a b c : Int32} (j : JJ σ τ) (h : Fit σ 11 a b c) : nOK 11 a (b' 11 b) (c' 11 c) := by
  rw [(show b' 11 b = -1 from if_pos so11.2.1), (show c' 11 c = -1 from if_pos so11.2.2)]
  have y : vp_in a 2 := ((fit_s (by unfold vp_in; decide) so11 (by decide) (by decide) (by decide) (by decide)).mp h).inn rfl
  exact ⟨(fun e => absurd e (by decide)), (fun e => absurd e (by decide)), (fun _ => y), (fun e => absurd e (by decide)), (fun e => absurd e (by decide)), (fun e => absurd e (by decide)), (fun e => absurd e (by decide)), (fun h0 h1 h10 h11 h12 h16 h17 => absurd rfl h11), (by unfold vp_in; decide)⟩
theorem nok_12 {a b c : Int32} (j : JJ σ τ) (h : Fit σ 12 a b c) : nOK 12 a (b' 12 b) (c' 12 c) := by
  rw [(show b' 12 b = b from if_neg (by rw [so12.2.1]; decide)), (show c' 12 c = c from if_neg (by rw [so12.2.2]; decide))]
  have y := fit_12.mp h
  exact ⟨(fun e => absurd e (by decide)), (fun e => absurd e (by decide)), (fun e => absurd e (by decide)), (fun _ => ⟨y.1.inn rfl, y.2.1.imp id (fun z => z.inn j), y.2.2.imp id (fun z => z.inn j)⟩), (fun e => absurd e (by decide)), (fun e => absurd e (by decide)), (fun e => absurd e (by decide)), (fun h0 h1 h10 h11 h12 h16 h17 => absurd rfl h12), (by unfold vp_in; decide)⟩
theorem nok_13 {a b c : Int32} (j : JJ σ τ) (h : Fit σ 13 a b c) : nOK 13 a (b' 13 b) (c' 13 c) := by
  rw [(show b' 13 b = b from if_neg (by rw [(so2 13 (by decide)).2.1]; decide)), (show c' 13 c = -1 from if_pos (so2 13 (by decide)).2.2)]
  have y := (fit_2 (by unfold vp_in; decide) (so2 13 (by decide))).mp h
  exact ⟨(fun e => absurd e (by decide)), (fun e => absurd e (by decide)), (fun e => absurd e (by decide)), (fun e => absurd e (by decide)), (fun e => absurd e (by decide)), (fun e => absurd e (by decide)), (fun e => absurd e (by decide)), (fun _ _ _ _ _ _ _ => ⟨y.1.inn j, y.2.inn j⟩), (by unfold vp_in; decide)⟩
theorem nok_14 {a b c : Int32} (j : JJ σ τ) (h : Fit σ 14 a b c) : nOK 14 a (b' 14 b) (c' 14 c) := by
  rw [(show b' 14 b = b from if_neg (by rw [(so2 14 (by decide)).2.1]; decide)), (show c' 14 c = -1 from if_pos (so2 14 (by decide)).2.2)]
  have y := (fit_2 (by unfold vp_in; decide) (so2 14 (by decide))).mp h
  exact ⟨(fun e => absurd e (by decide)), (fun e => absurd e (by decide)), (fun e => absurd e (by decide)), (fun e => absurd e (by decide)), (fun e => absurd e (by decide)), (fun e => absurd e (by decide)), (fun e => absurd e (by decide)), (fun _ _ _ _ _ _ _ => ⟨y.1.inn j, y.2.inn j⟩), (by unfold vp_in; decide)⟩
theorem nok_15 {a b c : Int32} (j : JJ σ τ) (h : Fit σ 15 a b c) : nOK 15 a (b' 15 b) (c' 15 c) := by
  rw [(show b' 15 b = b from if_neg (by rw [(so2 15 (by decide)).2.1]; decide)), (show c' 15 c = -1 from if_pos (so2 15 (by decide)).2.2)]
  have y := (fit_2 (by unfold vp_in; decide) (so2 15 (by decide))).mp h
  exact ⟨(fun e => absurd e (by decide)), (fun e => absurd e (by decide)), (fun e => absurd e (by decide)), (fun e => absurd e (by decide)), (fun e => absurd e (by decide)), (fun e => absurd e (by decide)), (fun e => absurd e (by decide)), (fun _ _ _ _ _ _ _ => ⟨y.1.inn j, y.2.inn j⟩), (by unfold vp_in; decide)⟩
theorem nok_16 {a b c : Int32} (j : JJ σ τ) (h : Fit σ 16 a b c) : nOK 16 a (b' 16 b) (c' 16 c) := by
  rw [(show b' 16 b = -1 from if_pos so16.2.1), (show c' 16 c = -1 from if_pos so16.2.2)]
  have y : vp_in a 4 := ((fit_s (by unfold vp_in; decide) so16 (by decide) (by decide) (by decide) (by decide)).mp h).inn rfl
  exact ⟨(fun e => absurd e (by decide)), (fun e => absurd e (by decide)), (fun e => absurd e (by decide)), (fun e => absurd e (by decide)), (fun _ => y), (fun e => absurd e (by decide)), (fun e => absurd e (by decide)), (fun h0 h1 h10 h11 h12 h16 h17 => absurd rfl h16), (by unfold vp_in; decide)⟩
theorem nok_17 {a b c : Int32} (j : JJ σ τ) (h : Fit σ 17 a b c) : nOK 17 a (b' 17 b) (c' 17 c) := by
  rw [(show b' 17 b = b from if_neg (by rw [so17.2.1]; decide)), (show c' 17 c = -1 from if_pos so17.2.2)]
  have y := fit_17.mp h
  exact ⟨(fun e => absurd e (by decide)), (fun e => absurd e (by decide)), (fun e => absurd e (by decide)), (fun e => absurd e (by decide)), (fun e => absurd e (by decide)), (fun _ => ⟨y.1.inn rfl, y.2.inn j⟩), (fun e => absurd e (by decide)), (fun h0 h1 h10 h11 h12 h16 h17 => absurd rfl h17), (by unfold vp_in; decide)⟩
theorem rmk_0 {a b c : Int32} {X : Int32 → CS → Prop} (j : JJ σ τ) (hf : Fit σ 0 a b c) (h48 : ¬ gI τ 0 = 48) (i0 : vp_in (gI τ 0) 48) (fin : ∀ t : CS, t = sI (MK4 (sI τ 5 0) (gI τ 0).toNatClampNeg 0 a (b' 0 b) (c' 0 c)) 0 (gI τ 0 + 1) → X ((gI t 0) - 1) t) : wp_MO_make 0 a b c τ X := by
  rw [(show b' 0 b = -1 from if_pos so0.2.1), (show c' 0 c = -1 from if_pos so0.2.2)] at fin
  refine rfits_or j (fun _ => sk (by decide) (sk h48 (fun s5 e5 => ?_))) (fun h => absurd hf h)
  subst e5
  exact tk (by decide) ⟨i0, fun s1 e1 => ⟨by subst e1; exact i0, fun s2 e2 => sk (by decide) ⟨by subst e2 e1; exact i0, fun s3 e3 => sk (by decide) (sk (by decide) ⟨by subst e3 e2 e1; exact i0, fun s4 e4 s5 e5 => fin s5 (by subst e5 e4 e3 e2 e1; rfl)⟩)⟩⟩⟩
theorem rmk_1 {a b c : Int32} {X : Int32 → CS → Prop} (j : JJ σ τ) (hf : Fit σ 1 a b c) (h48 : ¬ gI τ 0 = 48) (i0 : vp_in (gI τ 0) 48) (fin : ∀ t : CS, t = sI (MK4 (sI τ 5 0) (gI τ 0).toNatClampNeg 1 a (b' 1 b) (c' 1 c)) 0 (gI τ 0 + 1) → X ((gI t 0) - 1) t) : wp_MO_make 1 a b c τ X := by
  rw [(show b' 1 b = -1 from if_pos so1.2.1), (show c' 1 c = -1 from if_pos so1.2.2)] at fin
  refine rfits_or j (fun _ => sk (by decide) (sk h48 (fun s5 e5 => ?_))) (fun h => absurd hf h)
  subst e5
  exact tk (by decide) ⟨i0, fun s1 e1 => ⟨by subst e1; exact i0, fun s2 e2 => sk (by decide) ⟨by subst e2 e1; exact i0, fun s3 e3 => sk (by decide) (sk (by decide) ⟨by subst e3 e2 e1; exact i0, fun s4 e4 s5 e5 => fin s5 (by subst e5 e4 e3 e2 e1; rfl)⟩)⟩⟩⟩
theorem rmk_2 {a b c : Int32} {X : Int32 → CS → Prop} (j : JJ σ τ) (hf : Fit σ 2 a b c) (h48 : ¬ gI τ 0 = 48) (i0 : vp_in (gI τ 0) 48) (fin : ∀ t : CS, t = sI (MK4 (sI τ 5 0) (gI τ 0).toNatClampNeg 2 a (b' 2 b) (c' 2 c)) 0 (gI τ 0 + 1) → X ((gI t 0) - 1) t) : wp_MO_make 2 a b c τ X := by
  rw [(show b' 2 b = b from if_neg (by rw [(so2 2 (by decide)).2.1]; decide)), (show c' 2 c = -1 from if_pos (so2 2 (by decide)).2.2)] at fin
  refine rfits_or j (fun _ => sk (by decide) (sk h48 (fun s5 e5 => ?_))) (fun h => absurd hf h)
  subst e5
  exact sk (by decide) (sk (by decide) (sk (by decide) (sk (by decide) ⟨i0, fun s1 e1 => ⟨by subst e1; exact i0, fun s2 e2 => tk rfl ⟨by subst e2 e1; exact i0, fun s3 e3 => sk (by decide) (sk (by decide) ⟨by subst e3 e2 e1; exact i0, fun s4 e4 s5 e5 => fin s5 (by subst e5 e4 e3 e2 e1; rfl)⟩)⟩⟩⟩)))
theorem rmk_3 {a b c : Int32} {X : Int32 → CS → Prop} (j : JJ σ τ) (hf : Fit σ 3 a b c) (h48 : ¬ gI τ 0 = 48) (i0 : vp_in (gI τ 0) 48) (fin : ∀ t : CS, t = sI (MK4 (sI τ 5 0) (gI τ 0).toNatClampNeg 3 a (b' 3 b) (c' 3 c)) 0 (gI τ 0 + 1) → X ((gI t 0) - 1) t) : wp_MO_make 3 a b c τ X := by
  rw [(show b' 3 b = b from if_neg (by rw [(so2 3 (by decide)).2.1]; decide)), (show c' 3 c = -1 from if_pos (so2 3 (by decide)).2.2)] at fin
  refine rfits_or j (fun _ => sk (by decide) (sk h48 (fun s5 e5 => ?_))) (fun h => absurd hf h)
  subst e5
  exact sk (by decide) (sk (by decide) (sk (by decide) (sk (by decide) ⟨i0, fun s1 e1 => ⟨by subst e1; exact i0, fun s2 e2 => tk rfl ⟨by subst e2 e1; exact i0, fun s3 e3 => sk (by decide) (sk (by decide) ⟨by subst e3 e2 e1; exact i0, fun s4 e4 s5 e5 => fin s5 (by subst e5 e4 e3 e2 e1; rfl)⟩)⟩⟩⟩)))
theorem rmk_4 {a b c : Int32} {X : Int32 → CS → Prop} (j : JJ σ τ) (hf : Fit σ 4 a b c) (h48 : ¬ gI τ 0 = 48) (i0 : vp_in (gI τ 0) 48) (fin : ∀ t : CS, t = sI (MK4 (sI τ 5 0) (gI τ 0).toNatClampNeg 4 a (b' 4 b) (c' 4 c)) 0 (gI τ 0 + 1) → X ((gI t 0) - 1) t) : wp_MO_make 4 a b c τ X := by
  rw [(show b' 4 b = b from if_neg (by rw [(so2 4 (by decide)).2.1]; decide)), (show c' 4 c = -1 from if_pos (so2 4 (by decide)).2.2)] at fin
  refine rfits_or j (fun _ => sk (by decide) (sk h48 (fun s5 e5 => ?_))) (fun h => absurd hf h)
  subst e5
  exact sk (by decide) (sk (by decide) (sk (by decide) (sk (by decide) ⟨i0, fun s1 e1 => ⟨by subst e1; exact i0, fun s2 e2 => tk rfl ⟨by subst e2 e1; exact i0, fun s3 e3 => sk (by decide) (sk (by decide) ⟨by subst e3 e2 e1; exact i0, fun s4 e4 s5 e5 => fin s5 (by subst e5 e4 e3 e2 e1; rfl)⟩)⟩⟩⟩)))
theorem rmk_5 {a b c : Int32} {X : Int32 → CS → Prop} (j : JJ σ τ) (hf : Fit σ 5 a b c) (h48 : ¬ gI τ 0 = 48) (i0 : vp_in (gI τ 0) 48) (fin : ∀ t : CS, t = sI (MK4 (sI τ 5 0) (gI τ 0).toNatClampNeg 5 a (b' 5 b) (c' 5 c)) 0 (gI τ 0 + 1) → X ((gI t 0) - 1) t) : wp_MO_make 5 a b c τ X := by
  rw [(show b' 5 b = b from if_neg (by rw [(so2 5 (by decide)).2.1]; decide)), (show c' 5 c = -1 from if_pos (so2 5 (by decide)).2.2)] at fin
  refine rfits_or j (fun _ => sk (by decide) (sk h48 (fun s5 e5 => ?_))) (fun h => absurd hf h)
  subst e5
  exact sk (by decide) (sk (by decide) (sk (by decide) (sk (by decide) ⟨i0, fun s1 e1 => ⟨by subst e1; exact i0, fun s2 e2 => tk rfl ⟨by subst e2 e1; exact i0, fun s3 e3 => sk (by decide) (sk (by decide) ⟨by subst e3 e2 e1; exact i0, fun s4 e4 s5 e5 => fin s5 (by subst e5 e4 e3 e2 e1; rfl)⟩)⟩⟩⟩)))
theorem rmk_6 {a b c : Int32} {X : Int32 → CS → Prop} (j : JJ σ τ) (hf : Fit σ 6 a b c) (h48 : ¬ gI τ 0 = 48) (i0 : vp_in (gI τ 0) 48) (fin : ∀ t : CS, t = sI (MK4 (sI τ 5 0) (gI τ 0).toNatClampNeg 6 a (b' 6 b) (c' 6 c)) 0 (gI τ 0 + 1) → X ((gI t 0) - 1) t) : wp_MO_make 6 a b c τ X := by
  rw [(show b' 6 b = b from if_neg (by rw [(so2 6 (by decide)).2.1]; decide)), (show c' 6 c = -1 from if_pos (so2 6 (by decide)).2.2)] at fin
  refine rfits_or j (fun _ => sk (by decide) (sk h48 (fun s5 e5 => ?_))) (fun h => absurd hf h)
  subst e5
  exact sk (by decide) (sk (by decide) (sk (by decide) (sk (by decide) ⟨i0, fun s1 e1 => ⟨by subst e1; exact i0, fun s2 e2 => tk rfl ⟨by subst e2 e1; exact i0, fun s3 e3 => sk (by decide) (sk (by decide) ⟨by subst e3 e2 e1; exact i0, fun s4 e4 s5 e5 => fin s5 (by subst e5 e4 e3 e2 e1; rfl)⟩)⟩⟩⟩)))
theorem rmk_7 {a b c : Int32} {X : Int32 → CS → Prop} (j : JJ σ τ) (hf : Fit σ 7 a b c) (h48 : ¬ gI τ 0 = 48) (i0 : vp_in (gI τ 0) 48) (fin : ∀ t : CS, t = sI (MK4 (sI τ 5 0) (gI τ 0).toNatClampNeg 7 a (b' 7 b) (c' 7 c)) 0 (gI τ 0 + 1) → X ((gI t 0) - 1) t) : wp_MO_make 7 a b c τ X := by
  rw [(show b' 7 b = b from if_neg (by rw [(so2 7 (by decide)).2.1]; decide)), (show c' 7 c = -1 from if_pos (so2 7 (by decide)).2.2)] at fin
  refine rfits_or j (fun _ => sk (by decide) (sk h48 (fun s5 e5 => ?_))) (fun h => absurd hf h)
  subst e5
  exact sk (by decide) (sk (by decide) (sk (by decide) (sk (by decide) ⟨i0, fun s1 e1 => ⟨by subst e1; exact i0, fun s2 e2 => tk rfl ⟨by subst e2 e1; exact i0, fun s3 e3 => sk (by decide) (sk (by decide) ⟨by subst e3 e2 e1; exact i0, fun s4 e4 s5 e5 => fin s5 (by subst e5 e4 e3 e2 e1; rfl)⟩)⟩⟩⟩)))
theorem rmk_8 {a b c : Int32} {X : Int32 → CS → Prop} (j : JJ σ τ) (hf : Fit σ 8 a b c) (h48 : ¬ gI τ 0 = 48) (i0 : vp_in (gI τ 0) 48) (fin : ∀ t : CS, t = sI (MK4 (sI τ 5 0) (gI τ 0).toNatClampNeg 8 a (b' 8 b) (c' 8 c)) 0 (gI τ 0 + 1) → X ((gI t 0) - 1) t) : wp_MO_make 8 a b c τ X := by
  rw [(show b' 8 b = b from if_neg (by rw [(so2 8 (by decide)).2.1]; decide)), (show c' 8 c = -1 from if_pos (so2 8 (by decide)).2.2)] at fin
  refine rfits_or j (fun _ => sk (by decide) (sk h48 (fun s5 e5 => ?_))) (fun h => absurd hf h)
  subst e5
  exact sk (by decide) (sk (by decide) (sk (by decide) (sk (by decide) ⟨i0, fun s1 e1 => ⟨by subst e1; exact i0, fun s2 e2 => tk rfl ⟨by subst e2 e1; exact i0, fun s3 e3 => sk (by decide) (sk (by decide) ⟨by subst e3 e2 e1; exact i0, fun s4 e4 s5 e5 => fin s5 (by subst e5 e4 e3 e2 e1; rfl)⟩)⟩⟩⟩)))
theorem rmk_9 {a b c : Int32} {X : Int32 → CS → Prop} (j : JJ σ τ) (hf : Fit σ 9 a b c) (h48 : ¬ gI τ 0 = 48) (i0 : vp_in (gI τ 0) 48) (fin : ∀ t : CS, t = sI (MK4 (sI τ 5 0) (gI τ 0).toNatClampNeg 9 a (b' 9 b) (c' 9 c)) 0 (gI τ 0 + 1) → X ((gI t 0) - 1) t) : wp_MO_make 9 a b c τ X := by
  rw [(show b' 9 b = b from if_neg (by rw [so9.2.1]; decide)), (show c' 9 c = c from if_neg (by rw [so9.2.2]; decide))] at fin
  refine rfits_or j (fun _ => sk (by decide) (sk h48 (fun s5 e5 => ?_))) (fun h => absurd hf h)
  subst e5
  exact sk (by decide) (sk (by decide) (sk (by decide) (sk (by decide) ⟨i0, fun s1 e1 => ⟨by subst e1; exact i0, fun s2 e2 => tk rfl ⟨by subst e2 e1; exact i0, fun s3 e3 => tk rfl ⟨by subst e3 e2 e1; exact i0, fun s4 e4 s5 e5 => fin s5 (by subst e5 e4 e3 e2 e1; rfl)⟩⟩⟩⟩)))
theorem rmk_10 {a b c : Int32} {X : Int32 → CS → Prop} (j : JJ σ τ) (hf : Fit σ 10 a b c) (h48 : ¬ gI τ 0 = 48) (i0 : vp_in (gI τ 0) 48) (fin : ∀ t : CS, t = sI (MK4 (sI τ 5 0) (gI τ 0).toNatClampNeg 10 a (b' 10 b) (c' 10 c)) 0 (gI τ 0 + 1) → X ((gI t 0) - 1) t) : wp_MO_make 10 a b c τ X := by
  rw [(show b' 10 b = -1 from if_pos so10.2.1), (show c' 10 c = -1 from if_pos so10.2.2)] at fin
  refine rfits_or j (fun _ => sk (by decide) (sk h48 (fun s5 e5 => ?_))) (fun h => absurd hf h)
  subst e5
  exact sk (by decide) (tk rfl ⟨i0, fun s1 e1 => ⟨by subst e1; exact i0, fun s2 e2 => sk (by decide) ⟨by subst e2 e1; exact i0, fun s3 e3 => sk (by decide) (sk (by decide) ⟨by subst e3 e2 e1; exact i0, fun s4 e4 s5 e5 => fin s5 (by subst e5 e4 e3 e2 e1; rfl)⟩)⟩⟩⟩)
theorem rmk_11 {a b c : Int32} {X : Int32 → CS → Prop} (j : JJ σ τ) (hf : Fit σ 11 a b c) (h48 : ¬ gI τ 0 = 48) (i0 : vp_in (gI τ 0) 48) (fin : ∀ t : CS, t = sI (MK4 (sI τ 5 0) (gI τ 0).toNatClampNeg 11 a (b' 11 b) (c' 11 c)) 0 (gI τ 0 + 1) → X ((gI t 0) - 1) t) : wp_MO_make 11 a b c τ X := by
  rw [(show b' 11 b = -1 from if_pos so11.2.1), (show c' 11 c = -1 from if_pos so11.2.2)] at fin
  refine rfits_or j (fun _ => sk (by decide) (sk h48 (fun s5 e5 => ?_))) (fun h => absurd hf h)
  subst e5
  exact sk (by decide) (sk (by decide) (tk rfl ⟨i0, fun s1 e1 => ⟨by subst e1; exact i0, fun s2 e2 => sk (by decide) ⟨by subst e2 e1; exact i0, fun s3 e3 => sk (by decide) (sk (by decide) ⟨by subst e3 e2 e1; exact i0, fun s4 e4 s5 e5 => fin s5 (by subst e5 e4 e3 e2 e1; rfl)⟩)⟩⟩⟩))
theorem rmk_12 {a b c : Int32} {X : Int32 → CS → Prop} (j : JJ σ τ) (hf : Fit σ 12 a b c) (h48 : ¬ gI τ 0 = 48) (i0 : vp_in (gI τ 0) 48) (fin : ∀ t : CS, t = sI (MK4 (sI τ 5 0) (gI τ 0).toNatClampNeg 12 a (b' 12 b) (c' 12 c)) 0 (gI τ 0 + 1) → X ((gI t 0) - 1) t) : wp_MO_make 12 a b c τ X := by
  rw [(show b' 12 b = b from if_neg (by rw [so12.2.1]; decide)), (show c' 12 c = c from if_neg (by rw [so12.2.2]; decide))] at fin
  refine rfits_or j (fun _ => sk (by decide) (sk h48 (fun s5 e5 => ?_))) (fun h => absurd hf h)
  subst e5
  exact sk (by decide) (sk (by decide) (sk (by decide) (sk (by decide) ⟨i0, fun s1 e1 => ⟨by subst e1; exact i0, fun s2 e2 => tk rfl ⟨by subst e2 e1; exact i0, fun s3 e3 => sk (by decide) (tk rfl ⟨by subst e3 e2 e1; exact i0, fun s4 e4 s5 e5 => fin s5 (by subst e5 e4 e3 e2 e1; rfl)⟩)⟩⟩⟩)))
theorem rmk_13 {a b c : Int32} {X : Int32 → CS → Prop} (j : JJ σ τ) (hf : Fit σ 13 a b c) (h48 : ¬ gI τ 0 = 48) (i0 : vp_in (gI τ 0) 48) (fin : ∀ t : CS, t = sI (MK4 (sI τ 5 0) (gI τ 0).toNatClampNeg 13 a (b' 13 b) (c' 13 c)) 0 (gI τ 0 + 1) → X ((gI t 0) - 1) t) : wp_MO_make 13 a b c τ X := by
  rw [(show b' 13 b = b from if_neg (by rw [(so2 13 (by decide)).2.1]; decide)), (show c' 13 c = -1 from if_pos (so2 13 (by decide)).2.2)] at fin
  refine rfits_or j (fun _ => sk (by decide) (sk h48 (fun s5 e5 => ?_))) (fun h => absurd hf h)
  subst e5
  exact sk (by decide) (sk (by decide) (sk (by decide) (sk (by decide) ⟨i0, fun s1 e1 => ⟨by subst e1; exact i0, fun s2 e2 => tk rfl ⟨by subst e2 e1; exact i0, fun s3 e3 => sk (by decide) (sk (by decide) ⟨by subst e3 e2 e1; exact i0, fun s4 e4 s5 e5 => fin s5 (by subst e5 e4 e3 e2 e1; rfl)⟩)⟩⟩⟩)))
theorem rmk_14 {a b c : Int32} {X : Int32 → CS → Prop} (j : JJ σ τ) (hf : Fit σ 14 a b c) (h48 : ¬ gI τ 0 = 48) (i0 : vp_in (gI τ 0) 48) (fin : ∀ t : CS, t = sI (MK4 (sI τ 5 0) (gI τ 0).toNatClampNeg 14 a (b' 14 b) (c' 14 c)) 0 (gI τ 0 + 1) → X ((gI t 0) - 1) t) : wp_MO_make 14 a b c τ X := by
  rw [(show b' 14 b = b from if_neg (by rw [(so2 14 (by decide)).2.1]; decide)), (show c' 14 c = -1 from if_pos (so2 14 (by decide)).2.2)] at fin
  refine rfits_or j (fun _ => sk (by decide) (sk h48 (fun s5 e5 => ?_))) (fun h => absurd hf h)
  subst e5
  exact sk (by decide) (sk (by decide) (sk (by decide) (sk (by decide) ⟨i0, fun s1 e1 => ⟨by subst e1; exact i0, fun s2 e2 => tk rfl ⟨by subst e2 e1; exact i0, fun s3 e3 => sk (by decide) (sk (by decide) ⟨by subst e3 e2 e1; exact i0, fun s4 e4 s5 e5 => fin s5 (by subst e5 e4 e3 e2 e1; rfl)⟩)⟩⟩⟩)))
theorem rmk_15 {a b c : Int32} {X : Int32 → CS → Prop} (j : JJ σ τ) (hf : Fit σ 15 a b c) (h48 : ¬ gI τ 0 = 48) (i0 : vp_in (gI τ 0) 48) (fin : ∀ t : CS, t = sI (MK4 (sI τ 5 0) (gI τ 0).toNatClampNeg 15 a (b' 15 b) (c' 15 c)) 0 (gI τ 0 + 1) → X ((gI t 0) - 1) t) : wp_MO_make 15 a b c τ X := by
  rw [(show b' 15 b = b from if_neg (by rw [(so2 15 (by decide)).2.1]; decide)), (show c' 15 c = -1 from if_pos (so2 15 (by decide)).2.2)] at fin
  refine rfits_or j (fun _ => sk (by decide) (sk h48 (fun s5 e5 => ?_))) (fun h => absurd hf h)
  subst e5
  exact sk (by decide) (sk (by decide) (sk (by decide) (sk (by decide) ⟨i0, fun s1 e1 => ⟨by subst e1; exact i0, fun s2 e2 => tk rfl ⟨by subst e2 e1; exact i0, fun s3 e3 => sk (by decide) (sk (by decide) ⟨by subst e3 e2 e1; exact i0, fun s4 e4 s5 e5 => fin s5 (by subst e5 e4 e3 e2 e1; rfl)⟩)⟩⟩⟩)))
theorem rmk_16 {a b c : Int32} {X : Int32 → CS → Prop} (j : JJ σ τ) (hf : Fit σ 16 a b c) (h48 : ¬ gI τ 0 = 48) (i0 : vp_in (gI τ 0) 48) (fin : ∀ t : CS, t = sI (MK4 (sI τ 5 0) (gI τ 0).toNatClampNeg 16 a (b' 16 b) (c' 16 c)) 0 (gI τ 0 + 1) → X ((gI t 0) - 1) t) : wp_MO_make 16 a b c τ X := by
  rw [(show b' 16 b = -1 from if_pos so16.2.1), (show c' 16 c = -1 from if_pos so16.2.2)] at fin
  refine rfits_or j (fun _ => sk (by decide) (sk h48 (fun s5 e5 => ?_))) (fun h => absurd hf h)
  subst e5
  exact sk (by decide) (sk (by decide) (sk (by decide) (tk rfl ⟨i0, fun s1 e1 => ⟨by subst e1; exact i0, fun s2 e2 => sk (by decide) ⟨by subst e2 e1; exact i0, fun s3 e3 => sk (by decide) (sk (by decide) ⟨by subst e3 e2 e1; exact i0, fun s4 e4 s5 e5 => fin s5 (by subst e5 e4 e3 e2 e1; rfl)⟩)⟩⟩⟩)))
theorem rmk_17 {a b c : Int32} {X : Int32 → CS → Prop} (j : JJ σ τ) (hf : Fit σ 17 a b c) (h48 : ¬ gI τ 0 = 48) (i0 : vp_in (gI τ 0) 48) (fin : ∀ t : CS, t = sI (MK4 (sI τ 5 0) (gI τ 0).toNatClampNeg 17 a (b' 17 b) (c' 17 c)) 0 (gI τ 0 + 1) → X ((gI t 0) - 1) t) : wp_MO_make 17 a b c τ X := by
  rw [(show b' 17 b = b from if_neg (by rw [so17.2.1]; decide)), (show c' 17 c = -1 from if_pos so17.2.2)] at fin
  refine rfits_or j (fun _ => sk (by decide) (sk h48 (fun s5 e5 => ?_))) (fun h => absurd hf h)
  subst e5
  exact sk (by decide) (sk (by decide) (sk (by decide) (sk (by decide) ⟨i0, fun s1 e1 => ⟨by subst e1; exact i0, fun s2 e2 => tk rfl ⟨by subst e2 e1; exact i0, fun s3 e3 => sk (by decide) (sk (by decide) ⟨by subst e3 e2 e1; exact i0, fun s4 e4 s5 e5 => fin s5 (by subst e5 e4 e3 e2 e1; rfl)⟩)⟩⟩⟩)))
theorem fit_nok {k a b c : Int32} (j : JJ σ τ) (h : Fit σ k a b c) : nOK k a (b' k b) (c' k c) := by
  rcases kinds18 (i18 h.1) with rfl | rfl | rfl | rfl | rfl | rfl | rfl | rfl | rfl | rfl | rfl | rfl | rfl | rfl | rfl | rfl | rfl | rfl
  · exact nok_0 j h
  · exact nok_1 j h
  · exact nok_2 j h
  · exact nok_3 j h
  · exact nok_4 j h
  · exact nok_5 j h
  · exact nok_6 j h
  · exact nok_7 j h
  · exact nok_8 j h
  · exact nok_9 j h
  · exact nok_10 j h
  · exact nok_11 j h
  · exact nok_12 j h
  · exact nok_13 j h
  · exact nok_14 j h
  · exact nok_15 j h
  · exact nok_16 j h
  · exact nok_17 j h
theorem rmk {k a b c : Int32} {X : Int32 → CS → Prop} (j : JJ σ τ) (hf : Fit σ k a b c) (h48 : ¬ gI τ 0 = 48) (i0 : vp_in (gI τ 0) 48) (fin : ∀ t : CS, t = sI (MK4 (sI τ 5 0) (gI τ 0).toNatClampNeg k a (b' k b) (c' k c)) 0 (gI τ 0 + 1) → X ((gI t 0) - 1) t) : wp_MO_make k a b c τ X := by
  rcases kinds18 (i18 hf.1) with rfl | rfl | rfl | rfl | rfl | rfl | rfl | rfl | rfl | rfl | rfl | rfl | rfl | rfl | rfl | rfl | rfl | rfl
  · exact rmk_0 j hf h48 i0 fin
  · exact rmk_1 j hf h48 i0 fin
  · exact rmk_2 j hf h48 i0 fin
  · exact rmk_3 j hf h48 i0 fin
  · exact rmk_4 j hf h48 i0 fin
  · exact rmk_5 j hf h48 i0 fin
  · exact rmk_6 j hf h48 i0 fin
  · exact rmk_7 j hf h48 i0 fin
  · exact rmk_8 j hf h48 i0 fin
  · exact rmk_9 j hf h48 i0 fin
  · exact rmk_10 j hf h48 i0 fin
  · exact rmk_11 j hf h48 i0 fin
  · exact rmk_12 j hf h48 i0 fin
  · exact rmk_13 j hf h48 i0 fin
  · exact rmk_14 j hf h48 i0 fin
  · exact rmk_15 j hf h48 i0 fin
  · exact rmk_16 j hf h48 i0 fin
  · exact rmk_17 j hf h48 i0 fin
theorem cq_make {k a b c : Int32} {f : Nat → Int64} {QQ : Int32 → CS → (Nat → Int64) → Prop} (j : JJ σ τ) (hq : ∀ r s f, (∀ Z : Int32 → CS → Prop, (∀ r' τ', JJ s τ' → gI τ' 5 = r → (r = 0 → f 0 = r'.toInt64) → Z r' τ') → wp_MO_make k a b c τ Z) → QQ r s f) : wp_LW_make k a b c σ f QQ := by
  have e0 := j.2.2.1.2.1.1
  have b0 := j.2.2.2.2.2.2
  unfold wp_LW_make wp_NF_make
  refine takes_or (fun hf => sk (by decide) ⟨fun h48 => Or.inr ⟨rfl, ?_⟩, fun h48 => ?_⟩) (fun hf => tk rfl (Or.inl ⟨rfl, ?_⟩))
  · refine hq _ _ _ (fun Z hz => rfits_or j (fun _ => sk (by decide) (tk (by rw [e0]; exact h48) (fun s4 e4 => ?_))) (fun h => absurd hf h))
    subst e4
    exact hz _ _ j.th gI_sI (fun h => absurd h (by decide))
  · have n48 : (gI σ 8).toInt ≠ 48 := fun g => h48 (Int32.toInt_inj.mp g)
    have i8 : vp_in (gI σ 8) 48 := by
      refine vin ?_ (by omega)
      rw [Int32.lt_iff_toInt_lt, show (0 : Int32).toInt = 0 from rfl]
      omega
    have nok := fit_nok j hf
    refine add_to i8 (i18 hf.1) (hq _ _ _ (fun Z hz => rmk j hf (by rw [e0]; exact h48) (by rw [e0]; exact i8) (fun t et => ?_)))
    generalize b' k b = b1 at *
    generalize c' k c = c1 at *
    have t0 : gI t 0 - 1 = gI σ 8 := by rw [et, gI_sI, Int32.add_sub_cancel, e0]
    rw [t0]
    rw [e0] at et
    generalize hn : (gI σ 8).toNatClampNeg = n at *
    obtain ⟨⟨a0, a1, a2, a3, a4, a5, a6⟩, ⟨i0, i1, i2, i3, i4⟩, d0, dd1⟩ := j.2.2.1
    generalize hs : sI (MK4 σ n k a b1 c1) 8 (gI σ 8 + 1) = s at *
    have sI' : ∀ i, i ≠ 8 → gI s i = gI σ i := fun i h => by rw [← hs, gI_s h]; rfl
    have s8 : gI s 8 = gI σ 8 + 1 := by rw [← hs, gI_sI]
    have sA' : ∀ i, 4 ≤ i → gA s i = gA σ i := fun i h => by rw [← hs, gA_sI, MK_A h]
    have sA0 : gA s 0 = upd (gA σ 0) n k := by rw [← hs, gA_sI, MK_0]
    have sA1 : gA s 1 = upd (gA σ 1) n a := by rw [← hs, gA_sI, MK_1]
    have sA2 : gA s 2 = upd (gA σ 2) n b1 := by rw [← hs, gA_sI, MK_2]
    have sA3 : gA s 3 = upd (gA σ 3) n c1 := by rw [← hs, gA_sI, MK_3]
    have sD' : ∀ i, gD s i = gD σ i := fun i => by rw [← hs]; rfl
    have sC' : ∀ i, gC s i = gC σ i := fun i => by rw [← hs]; rfl
    have tI' : ∀ i, i ≠ 0 → i ≠ 5 → gI t i = gI τ i := fun i h h5 => by rw [et, gI_s h, MK_I, gI_s h5]
    have tI0 : gI t 0 = gI σ 8 + 1 := by rw [et, gI_sI]
    have tI5 : gI t 5 = 0 := by rw [et, gI_s (by decide), MK_I, gI_sI]
    have tA' : ∀ i, 4 ≤ i → gA t i = gA τ i := fun i h => by rw [et, gA_sI, MK_A h, gA_sI]
    have tA0 : gA t 0 = upd (gA τ 0) n k := by rw [et, gA_sI, MK_0, gA_sI]
    have tA1 : gA t 1 = upd (gA τ 1) n a := by rw [et, gA_sI, MK_1, gA_sI]
    have tA2 : gA t 2 = upd (gA τ 2) n b1 := by rw [et, gA_sI, MK_2, gA_sI]
    have tA3 : gA t 3 = upd (gA τ 3) n c1 := by rw [et, gA_sI, MK_3, gA_sI]
    have tD' : ∀ i, gD t i = gD τ i := fun i => by rw [et, gD_sI, MK_D, gD_sI]
    refine hz _ _ (j.of ⟨fun m hm => ?_, fun p hp => by rw [sA' 4 (by omega), sA' 5 (by omega)]; exact j.1.2 p hp⟩ (EI_prog j.2.1 (fun i h => sI' i (by omega)) (fun i h => sA' i (by omega)) sC' sD') ⟨⟨?_, ?_, ?_, ?_, ?_, ?_, ?_⟩, ⟨?_, ?_, ?_, ?_, ?_⟩, ?_, ?_⟩ (En_prog j.2.2.2.1 (fun i h => sI' i (by omega)) (fun i h => sA' i (by omega)) sC' sD' (fun i h => tA' i (by omega)) tD') (fun i h1 h2 => sI' i (by omega)) (sA' 7 (by omega)) ?_) tI5 (fun _ => rfl)
    · unfold nodeOK
      rw [sA0, sA1, sA2, sA3]
      by_cases e : m.toNatClampNeg = n
      · rw [e, upd_self, upd_self, upd_self, upd_self]
        exact nok
      · rw [upd_ne e, upd_ne e, upd_ne e, upd_ne e]
        exact j.1.1 m hm
    · rw [tA0, sA0, a0]
    · rw [tA1, sA1, a1]
    · rw [tA2, sA2, a2]
    · rw [tA3, sA3, a3]
    · rw [tA' 4 (by omega), sA' 4 (by omega)]; exact a4
    · rw [tA' 5 (by omega), sA' 5 (by omega)]; exact a5
    · rw [tA' 6 (by omega), sA' 6 (by omega)]; exact a6
    · rw [tI0, s8]
    · rw [tI' 1 (by decide) (by decide), sI' 9 (by decide)]; exact i1
    · rw [tI' 2 (by decide) (by decide), sI' 10 (by decide)]; exact i2
    · rw [tI' 3 (by decide) (by decide), sI' 11 (by decide)]; exact i3
    · rw [tI' 4 (by decide) (by decide), sI' 12 (by decide)]; exact i4
    · rw [tD', sD']; exact d0
    · rw [tD', sD']; exact dd1
    · rw [s8, Int32.toInt_add, show (1 : Int32).toInt = 1 from rfl, Int.bmod_eq_of_le (by omega) (by omega)]
      omega
  · refine hq _ _ _ (fun Z hz => rfits_or j (fun h => absurd h hf) (fun _ => tk rfl (fun s4 e4 => ?_)))
    subst e4
    exact hz _ _ j.th gI_sI (fun h => absurd h (by decide))
end MAKE2
