section CALLS2
variable {σ τ : CS}
theorem JJ.of {s t : CS} (j : JJ σ τ) (hp : PW s) (he : EI s) (hl : Lk s t) (hn : En s t) (i : ∀ k, 5 ≤ k → k ≤ 7 → gI s k = gI σ k) (a7 : gA s 7 = gA σ 7) (i8 : 0 ≤ (gI s 8).toInt ∧ (gI s 8).toInt ≤ 48) : JJ s t :=
  ⟨hp, he, hl, hn, ⟨by rw [i 5 (by omega) (by omega)]; exact j.2.2.2.2.1.1, by rw [i 6 (by omega) (by omega)]; exact j.2.2.2.2.1.2.1, by rw [i 7 (by omega) (by omega)]; exact j.2.2.2.2.1.2.2⟩, fun a ha => by rw [a7]; exact j.2.2.2.2.2.1 a ha, i8⟩
theorem cq_procedure {p1 p2 p3 p4 : Int32} {QQ : Int32 → CS → Prop} (j : JJ σ τ) (hq : ∀ r s, (∀ Z : CS → Prop, (∀ τ', JJ s τ' → gI τ' 5 = r → Z τ') → wp_MO_procedure p1 p2 p3 p4 τ Z) → QQ r s) : wp_LW_procedure p1 p2 p3 p4 σ QQ := by
  have e0 := j.2.2.1.2.1.1
  have b0 := j.2.2.2.2.2.2
  have bad : ¬ (Bl p1 4 ∧ NdS σ p2 ∧ Bl p3 3 ∧ Bl p4 4) → QQ 1 σ := fun hb => by
    refine hq 1 σ (fun Z hz => ?_)
    have fin : ∀ s4 : CS, s4 = sI τ 5 1 → ∀ {A : Prop}, (((gI s4 5) ≤ 0 → A) ∧ (¬ (gI s4 5) ≤ 0 → Z s4)) := fun s4 e4 => by
      intro A
      subst e4
      exact wp_leT (by decide) (hz _ j.th gI_sI)
    refine within_or (n := 4) rfl (fun h1 => sk (by decide) (isNode_or e0 b0 (fun h2 => sk (by decide) (within_or (n := 3) rfl (fun h3 => sk (by decide) (within_or (n := 4) rfl (fun h4 => absurd ⟨h1, h2, h3, h4⟩ hb) (fun _ => tk rfl (fun s4 e4 => fin s4 e4)))) (fun _ => tk rfl (fun s4 e4 => fin s4 e4)))) (fun _ => tk rfl (fun s4 e4 => fin s4 e4)))) (fun _ => tk rfl (fun s4 e4 => fin s4 e4))
  unfold wp_LW_procedure wp_NF_procedure
  refine below_or (fun h1 => sk (by decide) (has_or (fun h2 => sk (by decide) (below_or (fun h3 => sk (by decide) (below_or (fun h4 => sk (by decide) ?_) (fun h4 => tk rfl ⟨rfl, bad (fun y => h4 y.2.2.2)⟩))) (fun h3 => tk rfl ⟨rfl, bad (fun y => h3 y.2.2.1)⟩))) (fun h2 => tk rfl ⟨rfl, bad (fun y => h2 y.2.1)⟩))) (fun h1 => tk rfl ⟨rfl, bad (fun y => h1 y.1)⟩)
  have pin : vp_in p1 4 := h1.inn rfl
  refine ⟨pin, fun s1 e1 => ⟨pin, fun s2 e2 => ⟨pin, fun s3 e3 => hq 0 s3 (fun Z hz => ?_)⟩⟩⟩
  refine within_or (n := 4) rfl (fun _ => sk (by decide) (isNode_or e0 b0 (fun _ => sk (by decide) (within_or (n := 3) rfl (fun _ => sk (by decide) (within_or (n := 4) rfl (fun _ => sk (by decide) (fun t0 d0 => ?_)) (fun h => absurd h4 h))) (fun h => absurd h3 h))) (fun h => absurd h2 h))) (fun h => absurd h1 h)
  subst d0
  refine wp_leF ⟨pin, fun t1 d1 => ⟨pin, fun t2 d2 => ⟨pin, fun t3 d3 => hz _ ?_ (by rw [d3, gI_sA, d2, gI_sA, d1, gI_sA, gI_sI])⟩⟩⟩
  obtain ⟨⟨a0, a1, a2, a3, a4, a5, a6⟩, ⟨i0, i1, i2, i3, i4⟩, d0, dd1⟩ := j.2.2.1
  have sI' : ∀ k, gI s3 k = gI σ k := fun k => by rw [e3, gI_sA, e2, gI_sA, e1, gI_sA]
  have sA' : ∀ k, k ≠ 4 → k ≠ 5 → k ≠ 6 → gA s3 k = gA σ k := fun k h4 h5 h6 => by rw [e3, gA_s h6, e2, gA_s h5, e1, gA_s h4]
  have sA4 : gA s3 4 = upd (gA σ 4) p1.toNatClampNeg p2 := by rw [e3, gA_s (by decide), e2, gA_s (by decide), e1, gA_sA]
  have sA5 : gA s3 5 = upd (gA σ 5) p1.toNatClampNeg p3 := by rw [e3, gA_s (by decide), e2, gA_sA, e1, gA_s (by decide)]
  have sA6 : gA s3 6 = upd (gA σ 6) p1.toNatClampNeg p4 := by rw [e3, gA_sA, e2, gA_s (by decide), e1, gA_s (by decide)]
  have sD' : ∀ k, gD s3 k = gD σ k := fun k => by rw [e3, gD_sA, e2, gD_sA, e1, gD_sA]
  have sC' : ∀ k, gC s3 k = gC σ k := fun k => by rw [e3, gC_sA, e2, gC_sA, e1, gC_sA]
  have tI' : ∀ k, k ≠ 5 → gI t3 k = gI τ k := fun k h5 => by rw [d3, gI_sA, d2, gI_sA, d1, gI_sA, gI_s h5]
  have tA' : ∀ k, k ≠ 4 → k ≠ 5 → k ≠ 6 → gA t3 k = gA τ k := fun k h4 h5 h6 => by rw [d3, gA_s h6, d2, gA_s h5, d1, gA_s h4, gA_sI]
  have tA4 : gA t3 4 = upd (gA τ 4) p1.toNatClampNeg p2 := by rw [d3, gA_s (by decide), d2, gA_s (by decide), d1, gA_sA, gA_sI]
  have tA5 : gA t3 5 = upd (gA τ 5) p1.toNatClampNeg p3 := by rw [d3, gA_s (by decide), d2, gA_sA, d1, gA_s (by decide), gA_sI]
  have tA6 : gA t3 6 = upd (gA τ 6) p1.toNatClampNeg p4 := by rw [d3, gA_sA, d2, gA_s (by decide), d1, gA_s (by decide), gA_sI]
  have tD' : ∀ k, gD t3 k = gD τ k := fun k => by rw [d3, gD_sA, d2, gD_sA, d1, gD_sA, gD_sI]
  refine j.of ⟨fun n hn => ?_, fun p hp => ⟨?_, ?_⟩⟩ (EI_prog j.2.1 (fun k _ => sI' k) (fun k hk => sA' k (by omega) (by omega) (by omega)) sC' sD') ⟨⟨?_, ?_, ?_, ?_, ?_, ?_, ?_⟩, ⟨?_, ?_, ?_, ?_, ?_⟩, ?_, ?_⟩ (En_prog j.2.2.2.1 (fun k _ => sI' k) (fun k hk => sA' k (by omega) (by omega) (by omega)) sC' sD' (fun k hk => tA' k (by omega) (by omega) (by omega)) tD') (fun k _ _ => sI' k) (sA' 7 (by decide) (by decide) (by decide)) (by rw [sI']; exact b0)
  · have := j.1.1 n hn
    unfold nodeOK at this ⊢
    rw [sA' 0 (by decide) (by decide) (by decide), sA' 1 (by decide) (by decide) (by decide), sA' 2 (by decide) (by decide) (by decide), sA' 3 (by decide) (by decide) (by decide)]
    exact this
  · rw [sA4]
    by_cases e : p = p1.toNatClampNeg
    · rw [e, upd_self]; exact Or.inr (h2.inn j)
    · rw [upd_ne e]; exact (j.1.2 p hp).1
  · rw [sA5]
    by_cases e : p = p1.toNatClampNeg
    · rw [e, upd_self]
      have := h3.2
      rw [Int32.le_iff_toInt_le, show (3 : Int32).toInt = 3 from rfl] at this
      omega
    · rw [upd_ne e]; exact (j.1.2 p hp).2
  · rw [tA' 0 (by decide) (by decide) (by decide), sA' 0 (by decide) (by decide) (by decide)]; exact a0
  · rw [tA' 1 (by decide) (by decide) (by decide), sA' 1 (by decide) (by decide) (by decide)]; exact a1
  · rw [tA' 2 (by decide) (by decide) (by decide), sA' 2 (by decide) (by decide) (by decide)]; exact a2
  · rw [tA' 3 (by decide) (by decide) (by decide), sA' 3 (by decide) (by decide) (by decide)]; exact a3
  · rw [tA4, sA4, a4]
  · rw [tA5, sA5, a5]
  · rw [tA6, sA6, a6]
  · rw [tI' 0 (by decide), sI']; exact i0
  · rw [tI' 1 (by decide), sI']; exact i1
  · rw [tI' 2 (by decide), sI']; exact i2
  · rw [tI' 3 (by decide), sI']; exact i3
  · rw [tI' 4 (by decide), sI']; exact i4
  · rw [tD', sD']; exact d0
  · rw [tD', sD']; exact dd1
def okB (a b : Int32) : Prop := ¬ a < (-9) ∧ ¬ 9 < b ∧ ¬ b < a ∧ ¬ 5 ≤ (b - a)
theorem areB_of {a b : Int32} {σ : CS} {Q : Int32 → CS → Prop} (h1 : okB a b → Q 1 σ) (h0 : ¬ okB a b → Q 0 σ) : wp_NF_areBounds a b σ Q :=
  ⟨fun h => h0 (fun k => k.1 h), fun g1 => ⟨fun h => h0 (fun k => k.2.1 h), fun g2 => ⟨fun h => h0 (fun k => k.2.2.1 h), fun g3 => ⟨fun h => h0 (fun k => k.2.2.2 h), fun g4 => h1 ⟨g1, g2, g3, g4⟩⟩⟩⟩⟩
theorem okB_r {a b : Int32} (h : okB a b) : (¬ 9 < a ∧ ¬ b < (-9)) ∧ (a.toInt + 4 ≥ b.toInt ∧ -9 ≤ a.toInt ∧ b.toInt ≤ 9) := by
  obtain ⟨h1, h2, h3, h4⟩ := h
  simp only [Int32.lt_iff_toInt_lt, Int32.le_iff_toInt_le] at *
  have e9 : (9 : Int32).toInt = 9 := rfl
  have m9 : (-9 : Int32).toInt = -9 := rfl
  have e5 : (5 : Int32).toInt = 5 := rfl
  rw [Int32.toInt_sub, Int.bmod_eq_of_le (by omega) (by omega)] at h4
  omega
theorem range_of {a b : Int32} {σ : CS} {Q : Int32 → CS → Prop} (h1 : okB a b → Q 1 σ) (h0 : ¬ okB a b → Q 0 σ) : wp_MO_isRange a b σ Q := by
  unfold wp_MO_isRange
  refine ⟨fun h => tk rfl (h0 (fun k => k.1 h)), fun g1 => ⟨fun h => tk rfl (h0 (fun k => (okB_r k).1.1 h)), fun g2 => sk (by decide) ⟨fun h => tk rfl (h0 (fun k => (okB_r k).1.2 h)), fun g3 => ⟨fun h => tk rfl (h0 (fun k => k.2.1 h)), fun g4 => sk (by decide) ⟨fun h => h0 (fun k => k.2.2.1 h), fun g5 => ⟨fun h => h0 (fun k => k.2.2.2 h), fun g6 => h1 ⟨g1, g4, g5, g6⟩⟩⟩⟩⟩⟩⟩
theorem sD_sD {s : CS} {k : Nat} {v w : Nat → UInt64} : sD (sD s k v) k w = sD s k w := by
  have e : va_up (va_up s.2.2.1 k v) k w = va_up s.2.2.1 k w := by
    funext j
    by_cases h : j = k
    · rw [h, va_up_self, va_up_self]
    · rw [va_up_ne _ _ h, va_up_ne _ _ h, va_up_ne _ _ h]
  show (s.1, s.2.1, va_up (va_up s.2.2.1 k v) k w, s.2.2.2) = _
  rw [e]
  rfl
theorem fl_next {f : Nat → UInt64} {k : Nat} {v : UInt64} : vf_upd (fl k v f) k v = fl (k + 1) v f := by
  funext i
  by_cases e : i = k
  · rw [e, vfu_self]
    exact (if_pos (by omega)).symm
  · rw [vfu_ne e]
    unfold fl
    by_cases c : i < k
    · rw [if_pos c, if_pos (by omega)]
    · rw [if_neg c, if_neg (by omega)]
theorem loop_bounds {p1 p2 p3 p4 : Int32} {Q : Int32 → CS → Prop} {T : CS} (hq : Q (((p2 - p1) + 1) * ((p4 - p3) + 1)) (sD T 1 (fl 25 FP.dconst0 (gD T 1)))) (n : Nat) : ∀ k : Nat, k + n = 25 → lp_MO_bounds_52 p1 p2 p3 p4 Q (n + 1) (Int32.ofNat k) (sD T 1 (fl k FP.dconst0 (gD T 1))) := by
  induction n with
  | zero =>
    intro k hk
    have e : k = 25 := by omega
    subst e
    unfold lp_MO_bounds_52
    exact tk (by decide) hq
  | succ n ih =>
    intro k hk
    unfold lp_MO_bounds_52
    refine sk ?_ ⟨t_in (by omega) (by omega), fun s es => ?_⟩
    · rw [Int32.le_iff_toInt_le, t_int (by omega), show (25 : Int32).toInt = 25 from rfl]
      omega
    · rw [gD_sD, t_nat (by omega), fl_next, sD_sD] at es
      rw [es, t_add (by omega)]
      exact ih (k + 1) (by omega)
theorem flz {f : Nat → UInt64} {v : UInt64} : fl 0 v f = f := by
  funext i
  exact if_neg (by omega)
theorem sD_self {s : CS} {k : Nat} : sD s k (gD s k) = s := by
  have e : va_up s.2.2.1 k (gD s k) = s.2.2.1 := by
    funext j
    by_cases h : j = k
    · rw [h, va_up_self]; rfl
    · rw [va_up_ne _ _ h]
  show (s.1, s.2.1, va_up s.2.2.1 k (gD s k), s.2.2.2) = _
  rw [e]
theorem cq_bounds {p1 p2 p3 p4 : Int32} {f : Nat → Int64} {QQ : Int32 → CS → (Nat → Int64) → Prop} (j : JJ σ τ) (hq : ∀ r s f, (∀ Z : Int32 → CS → Prop, (∀ r' τ', JJ s τ' → gI τ' 5 = r → (r = 0 → f 0 = r'.toInt64) → Z r' τ') → wp_MO_bounds p1 p2 p3 p4 τ Z) → QQ r s f) : wp_LW_bounds p1 p2 p3 p4 σ f QQ := by
  have bad : ¬ (okB p1 p2 ∧ okB p3 p4) → QQ 1 σ f := by
    intro h
    refine hq 1 σ f (fun Z hz => ?_)
    unfold wp_MO_bounds
    refine range_of (fun k1 => sk (by decide) (range_of (fun k2 => absurd ⟨k1, k2⟩ h) (fun _ => tk rfl (fun s4 e4 => ?_)))) (fun _ => tk rfl (fun s4 e4 => ?_))
    · subst e4
      exact hz _ _ j.th gI_sI (fun h => absurd h (by decide))
    · subst e4
      exact hz _ _ j.th gI_sI (fun h => absurd h (by decide))
  unfold wp_LW_bounds wp_NF_bounds
  refine areB_of (fun k1 => sk (by decide) (areB_of (fun k2 => sk (by decide) ?_) (fun h => tk rfl ⟨rfl, bad (fun k => h k.2)⟩))) (fun h => tk rfl ⟨rfl, bad (fun k => h k.1)⟩)
  intro s1 e1 s2 e2 s3 e3 s4 e4 s5 e5
  refine hq 0 s5 _ (fun Z hz => ?_)
  have g9 : gI s5 9 = p1 := by rw [e5, gI_sD, e4, gI_s (by decide), e3, gI_s (by decide), e2, gI_s (by decide), e1, gI_sI]
  have g10 : gI s5 10 = p2 := by rw [e5, gI_sD, e4, gI_s (by decide), e3, gI_s (by decide), e2, gI_sI]
  have g11 : gI s5 11 = p3 := by rw [e5, gI_sD, e4, gI_s (by decide), e3, gI_sI]
  have g12 : gI s5 12 = p4 := by rw [e5, gI_sD, e4, gI_sI]
  have gO : ∀ k, k ≠ 9 → k ≠ 10 → k ≠ 11 → k ≠ 12 → gI s5 k = gI σ k := fun k h1 h2 h3 h4 => by rw [e5, gI_sD, e4, gI_s h4, e3, gI_s h3, e2, gI_s h2, e1, gI_s h1]
  have sA' : ∀ k, gA s5 k = gA σ k := fun k => by rw [e5, gA_sD, e4, gA_sI, e3, gA_sI, e2, gA_sI, e1, gA_sI]
  have sC' : ∀ k, gC s5 k = gC σ k := fun k => by rw [e5, gC_sD, e4, gC_sI, e3, gC_sI, e2, gC_sI, e1, gC_sI]
  have sD' : ∀ k, k ≠ 1 → gD s5 k = gD σ k := fun k h1 => by rw [e5, gD_s h1, e4, gD_sI, e3, gD_sI, e2, gD_sI, e1, gD_sI]
  have sD1 : gD s5 1 = fl 25 FP.dconst0 (gD σ 1) := by rw [e5, gD_sD, e4, gD_sI, e3, gD_sI, e2, gD_sI, e1, gD_sI]
  rw [g9, g10, g11, g12] at hz
  unfold wp_MO_bounds
  refine range_of (fun _ => sk (by decide) (range_of (fun _ => sk (by decide) (fun t1 d1 t2 d2 t3 d3 t4 d4 t5 d5 => ⟨25 + 1, ?_⟩)) (fun h => absurd k2 h))) (fun h => absurd k1 h)
  have lb := loop_bounds (p1 := p1) (p2 := p2) (p3 := p3) (p4 := p4) (Q := Z) (T := t5) ?_ 25 0 rfl
  · rw [flz, sD_self] at lb
    exact lb
  obtain ⟨⟨a0, a1, a2, a3, a4, a5, a6⟩, ⟨i0, i1, i2, i3, i4⟩, d0, dd1⟩ := j.2.2.1
  have w1 : gI t5 1 = p1 := by rw [d5, gI_s (by decide), d4, gI_s (by decide), d3, gI_s (by decide), d2, gI_sI]
  have w2 : gI t5 2 = p2 := by rw [d5, gI_s (by decide), d4, gI_s (by decide), d3, gI_sI]
  have w3 : gI t5 3 = p3 := by rw [d5, gI_s (by decide), d4, gI_sI]
  have w4 : gI t5 4 = p4 := by rw [d5, gI_sI]
  have w0 : gI t5 0 = gI τ 0 := by rw [d5, gI_s (by decide), d4, gI_s (by decide), d3, gI_s (by decide), d2, gI_s (by decide), d1, gI_s (by decide)]
  have w5 : gI t5 5 = 0 := by rw [d5, gI_s (by decide), d4, gI_s (by decide), d3, gI_s (by decide), d2, gI_s (by decide), d1, gI_sI]
  have tA' : ∀ k, gA t5 k = gA τ k := fun k => by rw [d5, gA_sI, d4, gA_sI, d3, gA_sI, d2, gA_sI, d1, gA_sI]
  have tD' : ∀ k, gD t5 k = gD τ k := fun k => by rw [d5, gD_sI, d4, gD_sI, d3, gD_sI, d2, gD_sI, d1, gD_sI]
  refine hz _ _ (j.of ⟨fun n hn => ?_, fun p hp => ?_⟩ ?_ ⟨⟨?_, ?_, ?_, ?_, ?_, ?_, ?_⟩, ⟨?_, ?_, ?_, ?_, ?_⟩, ?_, ?_⟩ ?_ (fun k h1 h2 => gO k (by omega) (by omega) (by omega) (by omega)) (sA' 7) (by rw [gO 8 (by decide) (by decide) (by decide) (by decide)]; exact j.2.2.2.2.2.2)) (by rw [gI_sD]; exact w5) (fun _ => rfl)
  · have := j.1.1 n hn
    unfold nodeOK at this ⊢
    rw [sA', sA', sA', sA']
    exact this
  · rw [sA', sA']; exact j.1.2 p hp
  · obtain ⟨h0, h1, h2, h3, h4, h5⟩ := j.2.1
    refine ⟨by rw [sC']; exact h0, fun h h9 x hc => ?_, fun k => by rw [sD' 0 (by decide)]; exact h2 k, fun k => ?_, fun h h9 k => by rw [sD' (10 + h) (by omega), sD' (20 + h) (by omega)]; exact h4 h h9 k, ?_⟩
    · rw [sC'] at hc
      obtain ⟨y1, y2⟩ := h1 h h9 x hc
      refine ⟨y1.imp id (fun z => ⟨z.1, by rw [sC']; exact z.2⟩), fun b hb hl => ?_⟩
      rw [gO (20 + h) (by omega) (by omega) (by omega) (by omega)] at hl
      rw [sA']
      exact y2 b hb hl
    · rw [sD1]
      unfold fl
      split
      · exact wi0
      · exact h3 k
    · rw [g9, g10, g11, g12]
      have y1 := (okB_r k1).2
      have y2 := (okB_r k2).2
      exact ⟨y1.1, y2.1, y1.2.1, y1.2.2, y2.2.1, y2.2.2⟩
  · rw [gA_sD, tA', sA']; exact a0
  · rw [gA_sD, tA', sA']; exact a1
  · rw [gA_sD, tA', sA']; exact a2
  · rw [gA_sD, tA', sA']; exact a3
  · rw [gA_sD, tA', sA']; exact a4
  · rw [gA_sD, tA', sA']; exact a5
  · rw [gA_sD, tA', sA']; exact a6
  · rw [gI_sD, w0, gO 8 (by decide) (by decide) (by decide) (by decide)]; exact i0
  · rw [gI_sD, w1, g9]
  · rw [gI_sD, w2, g10]
  · rw [gI_sD, w3, g11]
  · rw [gI_sD, w4, g12]
  · rw [gD_s (by decide), tD', sD' 0 (by decide)]; exact d0
  · rw [gD_sD, tD', sD1, dd1]
  · intro h h8 x hc
    rw [sC'] at hc
    rw [gA_sD, gA_sD, gA_sD, gA_sD, tA', tA', tA', tA', gD_s (by decide), gD_s (by decide), tD', tD', gO (20 + h) (by omega) (by omega) (by omega) (by omega), gO (30 + h) (by omega) (by omega) (by omega) (by omega), sA', sD' (20 + h) (by omega), sD' (10 + h) (by omega)]
    exact j.2.2.2.1 h h8 x hc
theorem cq_put {p : Int32} {v : UInt64} {f : Nat → UInt64} {QQ : Int32 → CS → (Nat → UInt64) → Prop} (j : JJ σ τ) (hq : ∀ r s f, (∀ Z : UInt64 → CS → Prop, (∀ r' τ', JJ s τ' → gI τ' 5 = r → (r = 0 → f 0 = r') → Z r' τ') → wp_MO_put p v τ Z) → QQ r s f) : wp_LW_put p v σ f QQ := by
  have d0 := j.2.2.1.2.2.1
  have bad : ¬ (Bl p 8 ∧ Wi v) → QQ 1 σ f := fun hb => by
    refine hq 1 σ f (fun Z hz => ?_)
    have fin : ∀ s4 : CS, s4 = sI τ 5 1 → ∀ {A : Prop}, (((gI s4 5) ≤ 0 → A) ∧ (¬ (gI s4 5) ≤ 0 → Z FP.dconst0 s4)) := fun s4 e4 => by
      intro A
      subst e4
      exact wp_leT (by decide) (hz _ _ j.th gI_sI (fun h => absurd h (by decide)))
    exact within_or (n := 8) rfl (fun h1 => sk (by decide) (good_or (fun h2 => absurd ⟨h1, h2⟩ hb) (fun _ => tk rfl (fun s4 e4 => fin s4 e4)))) (fun _ => tk rfl (fun s4 e4 => fin s4 e4))
  unfold wp_LW_put wp_NF_put
  refine below_or (fun h1 => sk (by decide) (size_or (fun wv => sk (by decide) ⟨h1.inn rfl, ?_⟩) (fun h => tk rfl ⟨rfl, bad (fun y => h y.2)⟩))) (fun h => tk rfl ⟨rfl, bad (fun y => h y.1)⟩)
  have pin : vp_in p 8 := h1.inn rfl
  have good : ∀ {w : UInt64} {s : CS}, s = sD σ 0 (vf_upd (gD σ 0) p.toNatClampNeg w) → Wi w → ((4 ≤ p → w = v) ∧ (¬ 4 ≤ p → w = FP.l2d (rd v))) → QQ 0 s (vf_upd f 0 (gD σ 0 p.toNatClampNeg)) := fun {w s} es ww hw => by
    subst es
    refine hq 0 _ _ (fun Z hz => ?_)
    have fin : ∀ t : CS, t = sD (sI τ 5 0) 0 (vf_upd (gD (sI τ 5 0) 0) p.toNatClampNeg w) → Z (gD (sI τ 5 0) 0 p.toNatClampNeg) t := fun t et => by
      subst et
      obtain ⟨a1, a2, -, dd1⟩ := j.2.2.1
      refine hz _ _ (j.of j.1 (EI_D0 j.2.1 ww) (j.2.2.1.cl ⟨rfl, rfl, rfl, rfl, rfl, rfl, rfl⟩ ⟨rfl, rfl, rfl, rfl, rfl, rfl, rfl⟩ (fun k hk => gI_s (by omega)) (fun _ _ _ => rfl) ?_ ?_) ?_ (fun _ _ _ => rfl) rfl j.2.2.2.2.2.2) (by rw [gI_sD]; exact gI_sI) (fun _ => ?_)
      · rw [gD_sD, gD_sD, gD_sI, d0]
      · rw [gD_s (by decide), gD_s (by decide), gD_sI]; exact dd1
      · intro x hx c hc
        rw [gD_s (by omega), gD_s (by omega), gD_s (by omega), gD_s (by omega)]
        exact j.2.2.2.1 x hx c hc
      · rw [vfu_self, gD_sI, d0]
    refine within_or (n := 8) rfl (fun _ => sk (by decide) (good_or (fun _ => sk (by decide) (fun s21 e21 => ?_)) (fun h => absurd wv h))) (fun h => absurd h1 h)
    subst e21
    refine wp_leF ⟨pin, fun hl => ⟨pin, fun t et => fin t ?_⟩, fun hl => round_to wv ⟨pin, fun t et => fin t ?_⟩⟩
    · rw [hw.1 hl]; exact et
    · rw [hw.2 hl]; exact et
  refine ⟨fun hl => ⟨pin, fun s2 e2 => ⟨pin, good e2 wv ⟨fun _ => rfl, fun h => absurd hl h⟩⟩⟩, fun hl => rounded_to wv ⟨pin, fun s2 e2 => ⟨pin, good e2 (wi_l2d (rd_sm wv)) ⟨fun h => absurd h hl, fun _ => rfl⟩⟩⟩⟩
end CALLS2
