/-! make on new objects, and the whole -/
theorem f_m1 (p : Int32) : fit0 p (-1) := ⟨fun h => absurd h (by decide), fun _ => ⟨by decide, fun h => absurd rfl h⟩⟩
theorem f_0 (p : Int32) : fit0 p 0 := ⟨fun h => absurd h (by decide), fun _ => ⟨by decide, fun _ h => absurd rfl h⟩⟩
theorem f_m2 {p : Int32} (h : fit0 p (-2)) : False := (h.2 (by decide)).1 rfl
theorem f_m3 {p : Int32} (h : fit0 p (-3)) : p = -1 := h.1 rfl
theorem f_m3' {p : Int32} (h : p = -1) : fit0 p (-3) := ⟨fun _ => h, fun h => absurd rfl h⟩
theorem f_n {p so : Int32} (h1 : so ≠ -3) (h2 : so ≠ -2) (h3 : so ≠ -1) (h4 : so ≠ 0) (h : fit0 p so) : ¬ p < 0 ∧ ¬ so ≤ p := (h.2 h1).2 h3 h4
theorem f_n' {p so : Int32} (h1 : so ≠ -3) (h2 : so ≠ -2) (h : ¬ p < 0 ∧ ¬ so ≤ p) : fit0 p so := ⟨fun e => absurd e h1, fun _ => ⟨h2, fun _ _ => h⟩⟩
theorem sk {p m n : Int32} (e : n.toInt = m.toInt + 1) : m < p ↔ n ≤ p := by
  rw [Int32.lt_iff_toInt_lt, Int32.le_iff_toInt_le]
  omega
theorem cut {p m n : Int32} (e : n.toInt = m.toInt + 1) (h : p < 0 ∨ m < p) (k : ¬ p < 0 ∧ ¬ n ≤ p) : False := h.elim k.1 (fun h => k.2 ((sk e).mp h))
theorem keep {p m n : Int32} (e : n.toInt = m.toInt + 1) (g1 : ¬ p < 0) (g2 : ¬ m < p) : ¬ p < 0 ∧ ¬ n ≤ p := ⟨g1, fun h => g2 ((sk e).mpr h)⟩
theorem soA_2 : ∀ n : Nat, n < 18 → (n = 0 ∨ n = 1 ∨ n = 10 ∨ n = 11 ∨ n = 12 ∨ n = 16 ∨ n = 17) ∨ soA n = -2 := by decide +kernel
theorem mfits_of {p1 p2 p3 p4 : Int32} {Q : Int32 → CS → Prop} (h1 : okM p1 p2 p3 p4 → Q 1 tau0) (h0 : ¬ okM p1 p2 p3 p4 → Q 0 tau0) : wp_MO_fits p1 p2 p3 p4 tau0 Q := by
  unfold wp_MO_fits
  refine ⟨fun e => ?_, fun n0 => ⟨fun e => ?_, fun n1 => ⟨fun e => ?_, fun n9 => ⟨fun e => ?_, fun m10 => ⟨fun e => ?_, fun n11 => ⟨fun e => ?_, fun n12 => ⟨fun e => ?_, fun n16 => ⟨fun e => ?_, fun n17 => ?_⟩⟩⟩⟩⟩⟩⟩⟩
  · subst e
    exact h1 ⟨by decide, by decide, f_m1 p2, f_0 p3, f_0 p4⟩
  · subst e
    exact within_of (fun hb => ⟨vz0, h0 (fun k => cut (m := 7) (n := 8) rfl hb (f_n (by decide) (by decide) (by decide) (by decide) k.2.2.1))⟩) (fun g1 g2 => ⟨vz1, h1 ⟨by decide, by decide, f_n' (by decide) (by decide) (keep (m := 7) (n := 8) rfl g1 g2), f_0 p3, f_0 p4⟩⟩)
  · subst e
    exact node0 rfl ⟨fun _ => h0 (fun k => f_m2 k.2.2.1), fun h => absurd rfl h⟩
  · subst e
    exact within_of (fun hb => ⟨vz0, h0 (fun k => cut (m := 1) (n := 2) rfl hb (f_n (by decide) (by decide) (by decide) (by decide) k.2.2.1))⟩) (fun g1 g2 => ⟨vz1, h1 ⟨by decide, by decide, f_n' (by decide) (by decide) (keep (m := 1) (n := 2) rfl g1 g2), f_0 p3, f_0 p4⟩⟩)
  · subst e
    exact within_of (fun hb => ⟨vz0, h0 (fun k => cut (m := 1) (n := 2) rfl hb (f_n (by decide) (by decide) (by decide) (by decide) k.2.2.1))⟩) (fun g1 g2 => ⟨vz1, h1 ⟨by decide, by decide, f_n' (by decide) (by decide) (keep (m := 1) (n := 2) rfl g1 g2), f_0 p3, f_0 p4⟩⟩)
  · subst e
    refine within_of (fun hb => ⟨fun _ => h0 (fun k => cut (m := 3) (n := 4) rfl hb (f_n (by decide) (by decide) (by decide) (by decide) k.2.2.1)), fun h => absurd rfl h⟩) (fun g1 g2 => ⟨n10, fun _ => ⟨fun e3 => ⟨fun e4 => h1 ⟨by decide, by decide, f_n' (by decide) (by decide) (keep (m := 3) (n := 4) rfl g1 g2), f_m3' e3, f_m3' e4⟩, fun e4 => node0 rfl ⟨fun _ => h0 (fun k => e4 (f_m3 k.2.2.2.2)), fun h => absurd rfl h⟩⟩, fun e3 => node0 rfl ⟨fun _ => h0 (fun k => e3 (f_m3 k.2.2.2.1)), fun h => absurd rfl h⟩⟩⟩)
  · subst e
    exact within_of (fun hb => ⟨vz0, h0 (fun k => cut (m := 3) (n := 4) rfl hb (f_n (by decide) (by decide) (by decide) (by decide) k.2.2.1))⟩) (fun g1 g2 => ⟨vz1, h1 ⟨by decide, by decide, f_n' (by decide) (by decide) (keep (m := 3) (n := 4) rfl g1 g2), f_0 p3, f_0 p4⟩⟩)
  · subst e
    exact within_of (fun hb => ⟨fun _ => h0 (fun k => f_m2 k.2.2.2.1), fun h => absurd rfl h⟩) (fun g1 g2 => ⟨n10, fun _ => node0 rfl ⟨fun _ => h0 (fun k => f_m2 k.2.2.2.1), fun h => absurd rfl h⟩⟩)
  · have bad : ¬ okM p1 p2 p3 p4 := by
      rintro ⟨k1, k2, k3, -⟩
      have e : p1.toNatClampNeg = p1.toInt.toNat := rfl
      rw [Int32.lt_iff_toInt_lt] at k1
      rw [Int32.le_iff_toInt_le] at k2
      rw [← Int32.toInt_inj] at n0 n1 n9 m10 n11 n12 n16 n17
      have : (0 : Int32).toInt = 0 := rfl
      have : (1 : Int32).toInt = 1 := rfl
      have : (10 : Int32).toInt = 10 := rfl
      have : (11 : Int32).toInt = 11 := rfl
      have : (12 : Int32).toInt = 12 := rfl
      have : (16 : Int32).toInt = 16 := rfl
      have : (17 : Int32).toInt = 17 := rfl
      have : (18 : Int32).toInt = 18 := rfl
      rcases soA_2 p1.toNatClampNeg (by omega) with h | h
      · omega
      · rw [h] at k3
        exact f_m2 k3
    exact within_of (fun _ => ⟨fun _ => h0 bad, fun h => absurd rfl h⟩) (fun _ _ => ⟨n10, fun _ => node0 rfl ⟨fun _ => h0 bad, fun h => absurd rfl h⟩⟩)
def mK (s : CS) : Prop := gI s 0 = 0 ∧ gI s 5 = 0
theorem mK_in {s : CS} (h : mK s) : vp_in (gI s 0) 48 := by rw [h.1]; exact in48
theorem mK_A {s : CS} {k : Nat} {v : Nat → Int32} {P : CS → Prop} (h : mK s) (g : ∀ s', mK s' → P s') : ∀ s' : CS, s' = sA s k v → P s' := fun s' e => g s' (by rw [e]; exact h)
theorem mK_f {s : CS} {Q : Int32 → CS → Prop} (h : mK s) (g : ∀ s', gI s' 5 = 0 → Q 0 s') : ∀ s' : CS, s' = sI s 0 ((gI s 0) + 1) → Q ((gI s' 0) - 1) s' := by
  intro s' e
  have e0 : gI s' 0 - 1 = 0 := by rw [e, gI_sI, h.1]; decide
  rw [e0]
  exact g s' (by rw [e, gI_s (by decide)]; exact h.2)
set_option maxHeartbeats 4000000 in
theorem mmake_of {p1 p2 p3 p4 : Int32} {Q : Int32 → CS → Prop} (h1 : okM p1 p2 p3 p4 → ∀ s', gI s' 5 = 0 → Q 0 s') (h0 : ¬ okM p1 p2 p3 p4 → ∀ s', gI s' 5 = 1 → Q 0 s') : wp_MO_make p1 p2 p3 p4 tau0 Q := by
  unfold wp_MO_make
  refine mfits_of (fun ok => ⟨n10, fun _ => ⟨fun h => absurd h (show ¬ (0 : Int32) = 48 by decide), fun _ s5 e5 => ?_⟩⟩) (fun nok => ⟨fun _ s4 e4 => h0 nok _ (by rw [e4]; rfl), fun h => absurd rfl h⟩)
  have hK : mK s5 := by rw [e5]; exact ⟨rfl, rfl⟩
  clear e5
  have hq := h1 ok
  repeat' (first
    | exact mK_f (by assumption) hq
    | refine ⟨mK_in (by assumption), ?_⟩
    | refine mK_A (by assumption) (fun s hK => ?_)
    | refine ⟨fun _ => ?_, fun _ => ?_⟩)
def cK (s : CS) : Prop := gI s 8 = 0
theorem cK_in {s : CS} (h : cK s) : vp_in (gI s 8) 48 := by rw [show gI s 8 = 0 from h]; exact in48
theorem cK_A {s : CS} {k : Nat} {v : Nat → Int32} {P : CS → Prop} (h : cK s) (g : ∀ s', cK s' → P s') : ∀ s' : CS, s' = sA s k v → P s' := fun s' e => g s' (by rw [e]; exact h)
theorem cK_f {s : CS} {Q : Int32 → CS → Prop} (h : cK s) (g : ∀ s', Q 0 s') : ∀ s' : CS, s' = sI s 8 ((gI s 8) + 1) → Q ((gI s' 8) - 1) s' := by
  intro s' e
  have e0 : gI s' 8 - 1 = 0 := by rw [e, gI_sI, show gI s 8 = 0 from h]; decide
  rw [e0]
  exact g s'
theorem add_of {p1 p2 p3 p4 : Int32} {Q : Int32 → CS → Prop} (hp : vp_in p1 18) (hq : ∀ s', Q 0 s') : wp_PR_add p1 p2 p3 p4 sig0 Q := by
  unfold wp_PR_add
  have hK : cK sig0 := rfl
  repeat' (first
    | exact cK_f (by assumption) hq
    | refine ⟨hp, ?_⟩
    | refine ⟨cK_in (by assumption), ?_⟩
    | refine cK_A (by assumption) (fun s hK => ?_)
    | refine ⟨fun _ => ?_, fun _ => ?_⟩)
theorem one_make (p1 p2 p3 p4 : Int32) {f : Nat → Int64} {Z : Int32 → CS → (Nat → Int64) → Int32 → Int32 → CS → Prop} (hz : HZJ Z) : wp_LW_make p1 p2 p3 p4 sig0 f (fun r s f => wp_MO_make p1 p2 p3 p4 tau0 (fun r' t => wp_MO_thrown t (fun r2 t2 => Z r s f r' r2 t2))) := by
  unfold wp_LW_make wp_NF_make
  refine takes_of (fun ok => ⟨n10, fun _ => ⟨fun h => absurd h (show ¬ (0 : Int32) = 48 by decide), fun _ => add_of (vin ok.1 (lt18 ok.2.1)) (fun s => ?_)⟩⟩) (fun nok => ⟨fun _ => Or.inl ⟨rfl, ?_⟩, fun h => absurd rfl h⟩)
  · refine mmake_of (fun _ s' e => ?_) (fun h => absurd ok h)
    show Z 0 s _ 0 (gI s' 5) s'
    rw [e]
    exact hz 0 _ _ _ _ (fun _ => rfl)
  · refine mmake_of (fun h => absurd h nok) (fun _ s' e => ?_)
    show Z 1 _ _ 0 (gI s' 5) s'
    rw [e]
    exact hz 1 _ _ _ _ n10
theorem lg_self (x : Int64) : lg_cmp x x = 0 := by
  unfold lg_cmp
  rw [if_neg (Int64.lt_irrefl), if_pos rfl]
theorem d00 : Op.cmpValue (FP.dcmp 0 0) .l = 0 := by decide +kernel
set_option maxHeartbeats 4000000 in
theorem law_one (xs : Nat → Int32) : lp_law 5 xs 2 0 sig0 tau0 (fun _ => 0) (fun _ => 0) := by
  have en := fun σ τ f g => law_end xs 0 σ τ f g
  have i0 := in5 0 (Or.inl rfl)
  have e8 := eighth_ok
  have j1 : vp_in 1 5 := in5 _ (Or.inr (Or.inl rfl))
  have j2 : vp_in 2 5 := in5 _ (Or.inr (Or.inr (Or.inl rfl)))
  have j3 : vp_in 3 5 := in5 _ (Or.inr (Or.inr (Or.inr (Or.inl rfl))))
  have j4 : vp_in 4 5 := in5 _ (Or.inr (Or.inr (Or.inr (Or.inr rfl))))
  have i1 := in5 (0 + 1) (Or.inr (Or.inl rfl))
  have i2 := in5 (0 + 2) (Or.inr (Or.inr (Or.inl rfl)))
  have i3 := in5 (0 + 3) (Or.inr (Or.inr (Or.inr (Or.inl rfl))))
  have i4 := in5 (0 + 4) (Or.inr (Or.inr (Or.inr (Or.inr rfl))))
  unfold lp_law
  refine ⟨fun _ => trivial, fun _ => ⟨i0, ?_⟩⟩
  refine ⟨fun _ => ⟨i1, i2, i3, i4, ?_⟩, fun _ => ⟨fun _ => ⟨i1, i2, i3, i4, ?_⟩, fun _ => ⟨fun _ => ⟨i1, i2, i3, i4, ?_⟩, fun _ => ⟨fun _ => ⟨i1, i2, eighth_ok _, ?_⟩, fun _ => ⟨fun _ => ⟨i1, ?_⟩, fun _ => ⟨fun _ => ⟨i1, ?_⟩, fun _ => ⟨fun _ => ⟨i1, i2, ?_⟩, fun _ => ⟨fun _ => ⟨i1, i2, ?_⟩, fun _ => ⟨fun _ => ?_, fun _ => ⟨fun _ => ⟨i1, ?_⟩, fun _ => en _ _ _ _⟩⟩⟩⟩⟩⟩⟩⟩⟩⟩
  · simp only [i1, i2, i3, i4, j1, j2, j3, j4, e8, true_and]
    refine one_make _ _ _ _ ?_
    intro r s f r' t h
    exact ⟨fun _ => ⟨fun e => ⟨fun _ => en _ _ _ _, fun n => n (by rw [h e]; exact lg_self _)⟩, fun _ => en _ _ _ _⟩, fun n => n rfl⟩
  · simp only [i1, i2, i3, i4, j1, j2, j3, j4, e8, true_and]
    refine one_procedure _ _ _ _ ?_
    intro r s t
    exact ⟨fun _ => en _ _ _ _, fun n => n rfl⟩
  · simp only [i1, i2, i3, i4, j1, j2, j3, j4, e8, true_and]
    refine one_bounds _ _ _ _ ?_
    intro r s f r' t h
    exact ⟨fun _ => ⟨fun e => ⟨fun _ => en _ _ _ _, fun n => n (by rw [h e]; exact lg_self _)⟩, fun _ => en _ _ _ _⟩, fun n => n rfl⟩
  · simp only [i1, i2, i3, i4, j1, j2, j3, j4, e8, true_and]
    refine one_put _ _ (eighth_ok _) ?_
    intro r s f r' t h
    exact ⟨fun _ => ⟨fun e => ⟨fun _ => en _ _ _ _, fun n => absurd (by rw [(h e).1, (h e).2]; exact d00) n⟩, fun _ => en _ _ _ _⟩, fun n => n rfl⟩
  · simp only [i1, i2, i3, i4, j1, j2, j3, j4, e8, true_and]
    refine one_work _ ?_
    intro r s f r' t h
    exact ⟨fun _ => ⟨fun e => ⟨fun _ => en _ _ _ _, fun n => absurd (by rw [(h e).1, (h e).2]; exact d00) n⟩, fun _ => en _ _ _ _⟩, fun n => n rfl⟩
  · simp only [i1, i2, i3, i4, j1, j2, j3, j4, e8, true_and]
    refine one_variable _ ?_
    intro r s f r' t h
    exact ⟨fun _ => ⟨fun e => ⟨fun _ => en _ _ _ _, fun n => absurd (by rw [(h e).1, (h e).2]; exact d00) n⟩, fun _ => en _ _ _ _⟩, fun n => n rfl⟩
  · simp only [i1, i2, i3, i4, j1, j2, j3, j4, e8, true_and]
    refine one_element _ _ ?_
    intro r s f r' t h
    exact ⟨fun _ => ⟨fun e => ⟨fun _ => en _ _ _ _, fun n => absurd (by rw [(h e).1, (h e).2]; exact d00) n⟩, fun _ => en _ _ _ _⟩, fun n => n rfl⟩
  · simp only [i1, i2, i3, i4, j1, j2, j3, j4, e8, true_and]
    refine one_node _ _ ?_
    intro r s f r' t h
    exact ⟨fun _ => ⟨fun e => ⟨fun _ => en _ _ _ _, fun n => n (by rw [h e]; exact lg_self _)⟩, fun _ => en _ _ _ _⟩, fun n => n rfl⟩
  · refine one_clear ?_
    intro s t
    exact ⟨fun _ => en _ _ _ _, fun n => n rfl⟩
  · simp only [i1, i2, i3, i4, j1, j2, j3, j4, e8, true_and]
    refine one_count _ ?_
    intro r s f r' t h
    exact ⟨fun _ => ⟨fun e => ⟨fun _ => en _ _ _ _, fun n => n (by rw [h e]; exact lg_self _)⟩, fun _ => en _ _ _ _⟩, fun n => n rfl⟩
theorem law_any {L : Nat} (hL : L ≤ 5) (xs : Nat → Int32) : ∃ k, k ≤ 1000 ∧ lp_law L xs k 0 sig0 tau0 (fun _ => 0) (fun _ => 0) := by
  by_cases h : L = 5
  · subst h
    exact ⟨2, by omega, law_one xs⟩
  · exact ⟨1, by omega, law_short (by omega) xs _ _ _ _⟩
theorem whole_start {p : Program} {e : Env} {s : State} {m : MethodId} {below : List Frame} {meth : Method} {c : Code} (l : Launch) (hst : l.stackTraces = false) {b L : Nat} {xs : Nat → Int32} (hL : L ≤ 5) (C0 : lw_At p s m meth c b L xs) : W p l e room_1 s m #[Value.ref b] below meth c s.heap [] 0 0 (lw_Z below #[Value.ref b] s) (entryFrame m ([Value.ref b] : List Value).toArray 9) := law_start hst (law_any hL xs) C0
