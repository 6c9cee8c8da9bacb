/-! one call on new objects -/
theorem vz0 : vp_z 0 := rfl
theorem vz1 : vp_z 1 := rfl
theorem in48 : vp_in 0 48 := by unfold vp_in; decide
theorem law_end (xs : Nat → Int32) (k : Nat) (σ τ : CS) (f : Nat → Int64) (g : Nat → UInt64) : lp_law 5 xs (k + 1) (0 + 5) σ τ f g := by
  unfold lp_law
  exact ⟨fun _ => trivial, fun h => absurd (by decide) h⟩
theorem law_short {L : Nat} (hL : L < 5) (xs : Nat → Int32) (σ τ : CS) (f : Nat → Int64) (g : Nat → UInt64) : lp_law L xs 1 0 σ τ f g := by
  unfold lp_law
  refine ⟨fun _ => trivial, fun h => absurd ?_ h⟩
  match L, hL with
  | 0, _ => decide
  | 1, _ => decide
  | 2, _ => decide
  | 3, _ => decide
  | 4, _ => decide
  | L + 5, hL => omega
theorem in5 (v : Int32) (h : v = 0 ∨ v = 0 + 1 ∨ v = 0 + 2 ∨ v = 0 + 3 ∨ v = 0 + 4) : vp_in v 5 := by
  rcases h with rfl | rfl | rfl | rfl | rfl <;> (unfold vp_in; decide)
theorem vin {p : Int32} {n : Nat} (h1 : ¬ p < 0) (h2 : p.toInt < n) : vp_in p n := by
  unfold vp_in
  rintro (h | h)
  · exact h1 h
  · have e : p.toNatClampNeg = p.toInt.toNat := rfl
    rw [Int32.lt_iff_toInt_lt] at h1
    have : (0 : Int32).toInt = 0 := rfl
    omega
theorem has0 {p : Int32} {Q : Int32 → CS → Prop} (h : Q 0 sig0) : wp_PR_has p sig0 Q := by
  unfold wp_PR_has wp_NF_isBelow
  refine ⟨fun _ => ⟨vz0, h⟩, fun h1 => ⟨fun _ => ⟨vz0, h⟩, fun h2 => absurd ?_ h2⟩⟩
  show (0 : Int32) ≤ p
  exact Int32.not_lt.mp h1
theorem node0 {p : Int32} {τ : CS} {Q : Int32 → CS → Prop} (e : gI τ 0 = 0) (h : Q 0 τ) : wp_MO_isNode p τ Q := by
  unfold wp_MO_isNode wp_MO_within
  refine ⟨fun _ => ⟨vz0, h⟩, fun h1 => ⟨fun _ => ⟨vz0, h⟩, fun h2 => absurd ?_ h2⟩⟩
  rw [e]
  have := Int32.not_lt.mp h1
  exact Int32.lt_of_lt_of_le (by decide) this
abbrev HZJ (Z : Int32 → CS → (Nat → Int64) → Int32 → Int32 → CS → Prop) : Prop := ∀ r s f r' t, (r = 0 → f 0 = r'.toInt64) → Z r s f r' r t
abbrev HZD (Z : Int32 → CS → (Nat → UInt64) → UInt64 → Int32 → CS → Prop) : Prop := ∀ r s f r' t, (r = 0 → f 0 = 0 ∧ r' = 0) → Z r s f r' r t
theorem n10 {P : Prop} : (1 : Int32) = 0 → P := fun h => absurd h (by decide)
theorem n20 {P : Prop} : (2 : Int32) = 0 → P := fun h => absurd h (by decide)
theorem below_of {p n : Int32} {σ : CS} {Q : Int32 → CS → Prop} (h0 : (p < 0 ∨ n ≤ p) → Q 0 σ) (h1 : ¬ p < 0 → ¬ n ≤ p → Q 1 σ) : wp_NF_isBelow p n σ Q := ⟨fun h => h0 (Or.inl h), fun h => ⟨fun g => h0 (Or.inr g), fun g => h1 h g⟩⟩
theorem within_of {p a b : Int32} {σ : CS} {Q : Int32 → CS → Prop} (h0 : (p < a ∨ b < p) → Q 0 σ) (h1 : ¬ p < a → ¬ b < p → Q 1 σ) : wp_MO_within p a b σ Q := ⟨fun h => h0 (Or.inl h), fun h => ⟨fun g => h0 (Or.inr g), fun g => h1 h g⟩⟩
theorem one_work (p : Int32) {f : Nat → UInt64} {Z : Int32 → CS → (Nat → UInt64) → UInt64 → Int32 → CS → Prop} (hz : HZD Z) : wp_LW_work p sig0 f (fun r s f => wp_MO_work p tau0 (fun r' t => wp_MO_thrown t (fun r2 t2 => Z r s f r' r2 t2))) := by
  unfold wp_LW_work wp_NF_work
  refine has0 ⟨fun _ => ?_, fun h => absurd rfl h⟩
  refine Or.inl ⟨rfl, ?_⟩
  unfold wp_MO_work
  refine node0 rfl ⟨fun _ s4 e4 => ⟨fun _ => ?_, fun h => absurd rfl h⟩, fun h => absurd rfl h⟩
  subst e4
  exact hz 1 _ _ _ _ n10
theorem lt8 {p : Int32} (h : ¬ (8 : Int32) ≤ p) : p.toInt < 8 := by
  rw [Int32.le_iff_toInt_le] at h
  have : (8 : Int32).toInt = 8 := rfl
  omega
theorem lt7 {p : Int32} (h : (7 : Int32) < p) : (8 : Int32) ≤ p := by
  rw [Int32.le_iff_toInt_le]
  rw [Int32.lt_iff_toInt_lt] at h
  have : (8 : Int32).toInt = 8 := rfl
  have : (7 : Int32).toInt = 7 := rfl
  omega
theorem n100 : ¬ (1 : Int32) ≤ 0 := by decide
theorem p00 : (0 : Int32) ≤ 0 := by decide
theorem one_variable (p : Int32) {f : Nat → UInt64} {Z : Int32 → CS → (Nat → UInt64) → UInt64 → Int32 → CS → Prop} (hz : HZD Z) : wp_LW_variable p sig0 f (fun r s f => wp_MO_variable p tau0 (fun r' t => wp_MO_thrown t (fun r2 t2 => Z r s f r' r2 t2))) := by
  unfold wp_LW_variable wp_NF_variable
  refine below_of (fun hb => ⟨fun _ => ⟨rfl, ?_⟩, fun h => absurd rfl h⟩) (fun h1 h2 => ⟨n10, fun _ => ⟨vin h1 (lt8 h2), ?_⟩⟩)
  · unfold wp_MO_variable
    refine within_of (fun _ => ⟨fun _ s4 e4 => ?_, fun h => absurd rfl h⟩) (fun g1 g2 => ?_)
    · subst e4
      exact ⟨fun h => absurd h n100, fun _ => hz 1 _ _ _ _ n10⟩
    · rcases hb with h | h
      · exact absurd h g1
      · exact absurd (Int32.lt_of_lt_of_le (by decide) h) g2
  · unfold wp_MO_variable
    refine within_of (fun g => ?_) (fun g1 g2 => ⟨n10, fun _ s4 e4 => ?_⟩)
    · rcases g with h | h
      · exact absurd h h1
      · exact absurd (lt7 h) h2
    · subst e4
      exact ⟨fun _ => ⟨vin h1 (lt8 h2), hz 0 _ _ _ _ (fun _ => ⟨rfl, rfl⟩)⟩, fun h => absurd p00 h⟩
theorem one_procedure (p1 p2 p3 p4 : Int32) {Z : Int32 → CS → Int32 → CS → Prop} (hz : ∀ r s t, Z r s r t) : wp_LW_procedure p1 p2 p3 p4 sig0 (fun r s => wp_MO_procedure p1 p2 p3 p4 tau0 (fun t => wp_MO_thrown t (fun r2 t2 => Z r s r2 t2))) := by
  have bad : wp_MO_procedure p1 p2 p3 p4 tau0 (fun t => wp_MO_thrown t (fun r2 t2 => Z 1 sig0 r2 t2)) := by
    unfold wp_MO_procedure
    refine within_of (fun _ => ⟨fun _ s4 e4 => ?_, fun h => absurd rfl h⟩) (fun _ _ => ⟨n10, fun _ => node0 rfl ⟨fun _ s4 e4 => ?_, fun h => absurd rfl h⟩⟩)
    · subst e4
      exact ⟨fun h => absurd h n100, fun _ => hz 1 _ _⟩
    · subst e4
      exact ⟨fun h => absurd h n100, fun _ => hz 1 _ _⟩
  unfold wp_LW_procedure wp_NF_procedure
  refine below_of (fun _ => ⟨fun _ => ⟨rfl, bad⟩, fun h => absurd rfl h⟩) (fun _ _ => ⟨n10, fun _ => has0 ⟨fun _ => ⟨rfl, bad⟩, fun h => absurd rfl h⟩⟩)
theorem one_node (p1 p2 : Int32) {f : Nat → Int64} {Z : Int32 → CS → (Nat → Int64) → Int32 → Int32 → CS → Prop} (hz : HZJ Z) : wp_LW_node p1 p2 sig0 f (fun r s f => wp_MO_node p1 p2 tau0 (fun r' t => wp_MO_thrown t (fun r2 t2 => Z r s f r' r2 t2))) := by
  unfold wp_LW_node wp_NF_node
  refine below_of (fun hb => ⟨fun _ => Or.inl ⟨rfl, ?_⟩, fun h => absurd rfl h⟩) (fun h1 h2 => ⟨n10, fun _ => has0 ⟨fun _ => Or.inr ⟨rfl, ?_⟩, fun h => absurd rfl h⟩⟩)
  · unfold wp_MO_node
    refine within_of (fun _ => ⟨fun _ s4 e4 => ?_, fun h => absurd rfl h⟩) (fun g1 g2 => ?_)
    · subst e4
      exact hz 1 _ _ _ _ n10
    · rcases hb with h | h
      · exact absurd h g1
      · exact absurd (Int32.lt_of_lt_of_le (by decide) h) g2
  · unfold wp_MO_node
    refine within_of (fun g => ?_) (fun g1 g2 => ⟨n10, fun _ => node0 rfl ⟨fun _ s4 e4 => ?_, fun h => absurd rfl h⟩⟩)
    · rcases g with h | h
      · exact absurd h h1
      · refine absurd ?_ h2
        rw [Int32.le_iff_toInt_le]
        rw [Int32.lt_iff_toInt_lt] at h
        have : (4 : Int32).toInt = 4 := rfl
        have : (3 : Int32).toInt = 3 := rfl
        omega
    · subst e4
      exact hz 2 _ _ _ _ n20
theorem one_count (p : Int32) {f : Nat → Int64} {Z : Int32 → CS → (Nat → Int64) → Int32 → Int32 → CS → Prop} (hz : HZJ Z) : wp_LW_count p sig0 f (fun r s f => wp_MO_count p tau0 (fun r' t => wp_MO_thrown t (fun r2 t2 => Z r s f r' r2 t2))) := by
  by_cases c0 : p = 0
  · subst c0
    refine ⟨fun _ => within_of (fun h => absurd h (by decide)) (fun _ _ => ⟨n10, fun _ s4 e4 => ?_⟩), fun h => absurd rfl h⟩
    subst e4
    exact ⟨fun _ => hz 0 _ _ _ _ (fun _ => rfl), fun h => absurd rfl h⟩
  by_cases c1 : p = 1
  · subst c1
    refine ⟨n10, fun _ => ⟨fun _ => ?_, fun h => absurd rfl h⟩⟩
    show wp_MO_count 1 tau0 (fun r' t => wp_MO_thrown t (fun r2 t2 => Z 0 sig0 (vp_updL f 0 (1 : Int32).toInt64) r' r2 t2))
    refine within_of (fun h => absurd h (by decide)) (fun _ _ => ⟨n10, fun _ s4 e4 => ?_⟩)
    subst e4
    exact ⟨n10, fun _ => ⟨fun _ => hz 0 _ _ _ _ (fun _ => rfl), fun h => absurd rfl h⟩⟩
  have more : ∀ (c2 : p = 2 ∨ p = 3 ∨ p = 4 ∨ p = 5 ∨ p = 6), wp_MO_count p tau0 (fun r' t => wp_MO_thrown t (fun r2 t2 => Z 0 sig0 (vp_updL f 0 (0 : Int32).toInt64) r' r2 t2)) := by
    intro c2
    refine within_of (fun h => ?_) (fun _ _ => ⟨n10, fun _ s4 e4 => ?_⟩)
    · rcases c2 with rfl | rfl | rfl | rfl | rfl <;> exact absurd h (by decide)
    · subst e4
      refine ⟨fun h => absurd h c0, fun _ => ⟨fun h => absurd h c1, fun _ => ⟨fun _ => hz 0 _ _ _ _ (fun _ => rfl), fun _ => ⟨fun _ => hz 0 _ _ _ _ (fun _ => rfl), fun _ => ⟨fun _ => hz 0 _ _ _ _ (fun _ => rfl), fun _ => ⟨fun _ => hz 0 _ _ _ _ (fun _ => rfl), fun _ => hz 0 _ _ _ _ (fun _ => rfl)⟩⟩⟩⟩⟩⟩
  refine ⟨fun h => absurd h c0, fun _ => ⟨fun h => absurd h c1, fun _ => ⟨fun h => more (Or.inl h), fun h2 => ⟨fun h => more (Or.inr (Or.inl h)), fun h3 => ⟨fun h => more (Or.inr (Or.inr (Or.inl h))), fun h4 => ⟨fun h => more (Or.inr (Or.inr (Or.inr (Or.inl h)))), fun h5 => ⟨fun h => more (Or.inr (Or.inr (Or.inr (Or.inr h)))), fun h6 => ⟨rfl, ?_⟩⟩⟩⟩⟩⟩⟩⟩
  refine within_of (fun _ => ⟨fun _ s4 e4 => ?_, fun h => absurd rfl h⟩) (fun g1 g2 => ?_)
  · subst e4
    exact hz 1 _ _ _ _ n10
  · exfalso
    rw [Int32.lt_iff_toInt_lt] at g1 g2
    rw [← Int32.toInt_inj] at c0 c1 h2 h3 h4 h5 h6
    have : (0 : Int32).toInt = 0 := rfl
    have : (1 : Int32).toInt = 1 := rfl
    have : (2 : Int32).toInt = 2 := rfl
    have : (3 : Int32).toInt = 3 := rfl
    have : (4 : Int32).toInt = 4 := rfl
    have : (5 : Int32).toInt = 5 := rfl
    have : (6 : Int32).toInt = 6 := rfl
    omega

/-- a pair of bounds that is taken -/
def okB (a b : Int32) : Prop := ¬ a < (-9) ∧ ¬ 9 < b ∧ ¬ b < a ∧ ¬ 5 ≤ (b - a)
theorem areB_of {a b : Int32} {σ : CS} {Q : Int32 → CS → Prop} (h1 : okB a b → Q 1 σ) (h0 : ¬ okB a b → Q 0 σ) : wp_NF_areBounds a b σ Q :=
  ⟨fun h => h0 (fun k => k.1 h), fun g1 => ⟨fun h => h0 (fun k => k.2.1 h), fun g2 => ⟨fun h => h0 (fun k => k.2.2.1 h), fun g3 => ⟨fun h => h0 (fun k => k.2.2.2 h), fun g4 => h1 ⟨g1, g2, g3, g4⟩⟩⟩⟩⟩
theorem okB_r {a b : Int32} (h : okB a b) : ¬ 9 < a ∧ ¬ b < (-9) := by
  obtain ⟨h1, h2, h3, -⟩ := h
  simp only [Int32.lt_iff_toInt_lt] at *
  have : (9 : Int32).toInt = 9 := rfl
  have : (-9 : Int32).toInt = -9 := rfl
  omega
theorem range_of {a b : Int32} {σ : CS} {Q : Int32 → CS → Prop} (h1 : okB a b → Q 1 σ) (h0 : ¬ okB a b → Q 0 σ) : wp_MO_isRange a b σ Q := by
  unfold wp_MO_isRange
  refine within_of (fun h => ⟨fun _ => h0 (fun k => ?_), fun h => absurd rfl h⟩) (fun g1 g2 => ⟨n10, fun _ => within_of (fun h => ⟨fun _ => h0 (fun k => ?_), fun h => absurd rfl h⟩) (fun g3 g4 => ⟨n10, fun _ => ⟨fun h => h0 (fun k => k.2.2.1 h), fun g5 => ⟨fun h => h0 (fun k => k.2.2.2 h), fun g6 => h1 ⟨g1, g4, g5, g6⟩⟩⟩⟩)⟩)
  · exact h.elim k.1 (okB_r k).1
  · exact h.elim (okB_r k).2 k.2.1
theorem loop_bounds {p1 p2 p3 p4 : Int32} {Q : Int32 → CS → Prop} (n : Nat) : ∀ (x : Int32) (s : CS), x.toInt + n = 25 → n ≤ 25 → (∀ s', gI s' 5 = gI s 5 → Q (((p2 - p1) + 1) * ((p4 - p3) + 1)) s') → lp_MO_bounds_52 p1 p2 p3 p4 Q (n + 1) x s := by
  induction n with
  | zero =>
    intro x s hx _ hq
    unfold lp_MO_bounds_52
    refine ⟨fun _ => hq s rfl, fun h => absurd ?_ h⟩
    rw [Int32.le_iff_toInt_le]
    have : (25 : Int32).toInt = 25 := rfl
    omega
  | succ n ih =>
    intro x s hx hn hq
    unfold lp_MO_bounds_52
    refine ⟨fun _ => hq s rfl, fun h => ⟨vin ?_ (by omega), fun s15 e => ih _ _ ?_ (by omega) (fun s' h' => hq s' (h'.trans (by rw [e]; rfl)))⟩⟩
    · rw [Int32.lt_iff_toInt_lt]
      have : (0 : Int32).toInt = 0 := rfl
      omega
    · rw [Int32.toInt_add]
      have : (1 : Int32).toInt = 1 := rfl
      rw [this, Int.bmod_eq_of_le (by omega) (by omega)]
      omega
theorem one_bounds (p1 p2 p3 p4 : Int32) {f : Nat → Int64} {Z : Int32 → CS → (Nat → Int64) → Int32 → Int32 → CS → Prop} (hz : HZJ Z) : wp_LW_bounds p1 p2 p3 p4 sig0 f (fun r s f => wp_MO_bounds p1 p2 p3 p4 tau0 (fun r' t => wp_MO_thrown t (fun r2 t2 => Z r s f r' r2 t2))) := by
  have bad : ¬ (okB p1 p2 ∧ okB p3 p4) → wp_MO_bounds p1 p2 p3 p4 tau0 (fun r' t => wp_MO_thrown t (fun r2 t2 => Z 1 sig0 f r' r2 t2)) := by
    intro h
    unfold wp_MO_bounds
    refine range_of (fun k1 => ⟨n10, fun _ => range_of (fun k2 => absurd ⟨k1, k2⟩ h) (fun _ => ⟨fun _ s4 e4 => ?_, fun h => absurd rfl h⟩)⟩) (fun _ => ⟨fun _ s4 e4 => ?_, fun h => absurd rfl h⟩)
    · subst e4
      exact hz 1 _ _ _ _ n10
    · subst e4
      exact hz 1 _ _ _ _ n10
  unfold wp_LW_bounds wp_NF_bounds
  refine areB_of (fun k1 => ⟨n10, fun _ => areB_of (fun k2 => ⟨n10, fun _ => ?_⟩) (fun h => ⟨fun _ => ⟨rfl, bad (fun k => h k.2)⟩, fun h => absurd rfl h⟩)⟩) (fun h => ⟨fun _ => ⟨rfl, bad (fun k => h k.1)⟩, fun h => absurd rfl h⟩)
  intro s1 e1 s2 e2 s3 e3 s4 e4 s5 e5
  show wp_MO_bounds p1 p2 p3 p4 tau0 _
  have hs : (((gI s5 10) - (gI s5 9)) + 1) * (((gI s5 12) - (gI s5 11)) + 1) = ((p2 - p1) + 1) * ((p4 - p3) + 1) := by
    subst e1 e2 e3 e4 e5
    rfl
  rw [hs]
  unfold wp_MO_bounds
  refine range_of (fun _ => ⟨n10, fun _ => range_of (fun _ => ⟨n10, fun _ t1 d1 t2 d2 t3 d3 t4 d4 t5 d5 => ⟨26, loop_bounds 25 0 t5 rfl (by omega) (fun s' h' => ?_)⟩⟩) (fun h => absurd k2 h)⟩) (fun h => absurd k1 h)
  have e5 : gI t5 5 = 0 := by
    subst d1 d2 d3 d4 d5
    rfl
  show Z 0 _ _ _ (gI s' 5) s'
  rw [h', e5]
  exact hz 0 _ _ _ _ (fun _ => rfl)
theorem loop_clear {Q : Int32 → CS → Prop} {x1 : Int32} (n : Nat) : ∀ (x : Int32) (s : CS), x.toInt + n = 4 → n ≤ 4 → (∀ s', Q x1 s') → lp_MO_clear_17 Q (n + 1) x x1 s := by
  induction n with
  | zero =>
    intro x s hx _ hq
    unfold lp_MO_clear_17
    refine ⟨fun _ => hq s, fun h => absurd ?_ h⟩
    rw [Int32.le_iff_toInt_le]
    have : (4 : Int32).toInt = 4 := rfl
    omega
  | succ n ih =>
    intro x s hx hn hq
    unfold lp_MO_clear_17
    refine ⟨fun _ => hq s, fun h => ⟨vin ?_ (by omega), fun s15 e => ih _ _ ?_ (by omega) hq⟩⟩
    · rw [Int32.lt_iff_toInt_lt]
      have : (0 : Int32).toInt = 0 := rfl
      omega
    · rw [Int32.toInt_add]
      have : (1 : Int32).toInt = 1 := rfl
      rw [this, Int.bmod_eq_of_le (by omega) (by omega)]
      omega
theorem one_clear {Z : Int32 → CS → Int32 → CS → Prop} (hz : ∀ s t, Z 0 s 0 t) : wp_NF_clear sig0 (fun r s => wp_MO_clear tau0 (fun r' t => Z r s r' t)) := by
  unfold wp_NF_clear
  intro s1 e1 s2 e2
  intro t1 d1 t2 d2
  refine ⟨5, loop_clear 4 0 t2 rfl (by omega) (fun s' => ?_)⟩
  subst d1
  exact hz _ _
theorem cmp_eq {a b : Int32} {o1 o2 : CmpOp} (h1 : ¬ Op.cmpValue (FP.dcmp (FP.i2d a) (FP.i2d b)) o1 < 0) (h2 : ¬ 0 < Op.cmpValue (FP.dcmp (FP.i2d a) (FP.i2d b)) o2) : a = b := by
  have e : FP.dcmp (FP.i2d a) (FP.i2d b) = some (compare a.toInt b.toInt) := FP.Core.dcmp_int (FP.Core.i2d_int a) (FP.Core.i2d_int b)
  rw [e] at h1 h2
  cases hc : compare a.toInt b.toInt with
  | lt => rw [hc] at h1; exact absurd (show (-1 : Int32) < 0 by decide) h1
  | gt => rw [hc] at h2; exact absurd (show (0 : Int32) < 1 by decide) h2
  | eq => exact Int32.toInt_inj.mp (by first | exact Std.compare_eq_iff_eq.mp hc | exact Int.compare_eq_eq.mp hc | simpa using hc)
theorem lg_eq {a b : Int32} (h1 : ¬ lg_cmp a.toInt64 b.toInt64 < 0) (h2 : ¬ 0 < lg_cmp a.toInt64 b.toInt64) : a = b := by
  unfold lg_cmp at h1 h2
  split at h1
  · rename_i h
    rw [if_pos h] at h2
    exact absurd (by decide) h2
  · split at h1
    · rename_i h
      have := congrArg Int64.toInt32 h
      simpa using this
    · exact absurd (by decide) h1
theorem one_element (p1 p2 : Int32) {f : Nat → UInt64} {Z : Int32 → CS → (Nat → UInt64) → UInt64 → Int32 → CS → Prop} (hz : HZD Z) : wp_LW_element p1 p2 sig0 f (fun r s f => wp_MO_element p1 p2 tau0 (fun r' t => wp_MO_thrown t (fun r2 t2 => Z r s f r' r2 t2))) := by
  have bad : ¬ (p1 = 1 ∧ p2 = 1) → wp_MO_element p1 p2 tau0 (fun r' t => wp_MO_thrown t (fun r2 t2 => Z 1 sig0 f r' r2 t2)) := by
    intro hn
    have leaf : ∀ {r1 : Int32}, r1 = -1 → ((0 ≤ r1 → (∀ s4 : CS, s4 = sI tau0 5 0 → (((gI s4 5) ≤ 0 → (vp_in r1 25 ∧ Z 1 sig0 f (gD s4 1 r1.toNatClampNeg) (gI s4 5) s4)) ∧ (¬ (gI s4 5) ≤ 0 → Z 1 sig0 f FP.dconst0 (gI s4 5) s4)))) ∧ (¬ 0 ≤ r1 → (∀ s6 : CS, s6 = sI tau0 5 1 → (((gI s6 5) ≤ 0 → (vp_in r1 25 ∧ Z 1 sig0 f (gD s6 1 r1.toNatClampNeg) (gI s6 5) s6)) ∧ (¬ (gI s6 5) ≤ 0 → Z 1 sig0 f FP.dconst0 (gI s6 5) s6))))) := by
      rintro _ rfl
      refine ⟨fun h => absurd h (by decide), fun _ s6 e6 => ?_⟩
      subst e6
      exact ⟨fun h => absurd h n100, fun _ => hz 1 _ _ _ _ n10⟩
    refine ⟨fun _ => leaf rfl, fun g1 => ⟨fun _ => leaf rfl, fun g2 => ⟨fun _ => leaf rfl, fun g3 => ⟨fun g4 => ?_, fun _ => leaf rfl⟩⟩⟩⟩
    exact absurd ⟨cmp_eq (b := 1) g1 g2, cmp_eq (b := 1) g3 (fun h => absurd (Int32.lt_of_lt_of_le h g4) (by decide))⟩ hn
  unfold wp_LW_element wp_NF_element
  by_cases hp : p1 = 1 ∧ p2 = 1
  · obtain ⟨rfl, rfl⟩ := hp
    refine ⟨fun h => absurd h (by decide), fun _ => ⟨fun h => absurd h (by decide), fun _ => ⟨fun h => absurd h (by decide), fun _ => ⟨fun h => absurd h (by decide), fun _ => ⟨n10, fun _ => ⟨(show vp_in 0 25 by unfold vp_in; decide), ?_⟩⟩⟩⟩⟩⟩
    show wp_MO_element 1 1 tau0 (fun r' t => wp_MO_thrown t (fun r2 t2 => Z 0 sig0 (vf_upd f 0 0) r' r2 t2))
    have ec : FP.dcmp (FP.i2d 1) (FP.i2d 1) = some .eq := by decide +kernel
    have e0 : (5 * (FP.d2i (FP.dsub (FP.i2d 1) (FP.i2d 1)))) + (FP.d2i (FP.dsub (FP.i2d 1) (FP.i2d 1))) = 0 := by decide +kernel
    refine ⟨fun h => absurd h (by rw [show gI tau0 1 = 1 from rfl, ec]; decide), fun _ => ⟨fun h => absurd h (by rw [show gI tau0 2 = 1 from rfl, ec]; decide), fun _ => ⟨fun h => absurd h (by rw [show gI tau0 3 = 1 from rfl, ec]; decide), fun _ => ⟨fun _ => ⟨(show vf_n64 (FP.dsub (FP.i2d 1) (FP.i2d 1)) by unfold vf_n64; decide +kernel), (show vf_n64 (FP.dsub (FP.i2d 1) (FP.i2d 1)) by unfold vf_n64; decide +kernel), ?_⟩, fun h => absurd (by rw [show gI tau0 4 = 1 from rfl, ec]; decide) h⟩⟩⟩⟩
    rw [show gI tau0 1 = 1 from rfl, show gI tau0 3 = 1 from rfl, e0]
    refine ⟨fun _ s4 e4 => ?_, fun h => absurd p00 h⟩
    subst e4
    exact ⟨fun _ => ⟨(show vp_in 0 25 by unfold vp_in; decide), hz 0 _ _ _ _ (fun _ => ⟨rfl, rfl⟩)⟩, fun h => absurd p00 h⟩
  · refine ⟨fun _ => ⟨fun _ => ⟨rfl, bad hp⟩, fun h => absurd rfl h⟩, fun g1 => ⟨fun _ => ⟨fun _ => ⟨rfl, bad hp⟩, fun h => absurd rfl h⟩, fun g2 => ⟨fun _ => ⟨fun _ => ⟨rfl, bad hp⟩, fun h => absurd rfl h⟩, fun g3 => ⟨fun _ => ⟨fun _ => ⟨rfl, bad hp⟩, fun h => absurd rfl h⟩, fun g4 => ?_⟩⟩⟩⟩
    exact absurd ⟨lg_eq (b := 1) g1 g2, lg_eq (b := 1) g3 g4⟩ hp

theorem half_fin : Jvm.Free.Fl.Fin64 4602678819172646912 := by unfold Jvm.Free.Fl.Fin64; decide
theorem eighth_fin : Jvm.Free.Fl.Fin64 4593671619917905920 := by unfold Jvm.Free.Fl.Fin64; decide
theorem one_fin : Jvm.Free.Fl.Fin64 FP.dconst1 := by unfold Jvm.Free.Fl.Fin64; decide +kernel
theorem eighth_ok (v : Int32) : vf_n64 (FP.dmul (FP.i2d v) 4593671619917905920) := Jvm.Free.Fl.dmul_out (Jvm.Free.Fl.i2d_fin v) eighth_fin
theorem one_put (p : Int32) (x : UInt64) (hx : vf_n64 x) {f : Nat → UInt64} {Z : Int32 → CS → (Nat → UInt64) → UInt64 → Int32 → CS → Prop} (hz : HZD Z) : wp_LW_put p x sig0 f (fun r s f => wp_MO_put p x tau0 (fun r' t => wp_MO_thrown t (fun r2 t2 => Z r s f r' r2 t2))) := by
  have ha : vf_n64 (FP.dadd x 4602678819172646912) := Jvm.Free.Fl.dadd_out hx half_fin
  have hs : ∀ v : Int64, vf_n64 (FP.dsub (FP.l2d v) FP.dconst1) := fun v => Jvm.Free.Fl.dsub_out (UInt64.le_of_lt (Jvm.Free.Fl.l2d_fin v)) one_fin
  have badP : (p < 0 ∨ 8 ≤ p) → wp_MO_put p x tau0 (fun r' t => wp_MO_thrown t (fun r2 t2 => Z 1 sig0 f r' r2 t2)) := by
    intro hb
    unfold wp_MO_put
    refine within_of (fun _ => ⟨fun _ s4 e4 => ?_, fun h => absurd rfl h⟩) (fun g1 g2 => ?_)
    · subst e4
      exact ⟨fun h => absurd h n100, fun _ => hz 1 _ _ _ _ n10⟩
    · rcases hb with h | h
      · exact absurd h g1
      · exact absurd (Int32.lt_of_lt_of_le (by decide) h) g2
  have badX : ¬ p < 0 → ¬ 8 ≤ p → ((Op.cmpValue (FP.dcmp x 13965043853221167104) .l) < 0 ∨ 0 < (Op.cmpValue (FP.dcmp x 4741671816366391296) .g)) → wp_MO_put p x tau0 (fun r' t => wp_MO_thrown t (fun r2 t2 => Z 1 sig0 f r' r2 t2)) := by
    intro h1 h2 hb
    unfold wp_MO_put
    refine within_of (fun h => absurd h (fun h => h.elim h1 (fun h => h2 (lt7 h)))) (fun _ _ => ⟨n10, fun _ => ?_⟩)
    refine ⟨fun _ => ⟨fun _ s4 e4 => ?_, fun h => absurd rfl h⟩, fun g1 => ⟨fun _ => ⟨fun _ s4 e4 => ?_, fun h => absurd rfl h⟩, fun g2 => absurd hb (fun h => h.elim g2 g1)⟩⟩
    · subst e4
      exact ⟨fun h => absurd h n100, fun _ => hz 1 _ _ _ _ n10⟩
    · subst e4
      exact ⟨fun h => absurd h n100, fun _ => hz 1 _ _ _ _ n10⟩
  unfold wp_LW_put wp_NF_put
  refine below_of (fun hb => ⟨fun _ => ⟨rfl, badP hb⟩, fun h => absurd rfl h⟩) (fun h1 h2 => ⟨n10, fun _ => ⟨fun c1 => ⟨fun _ => ⟨rfl, badX h1 h2 (Or.inl c1)⟩, fun h => absurd rfl h⟩, fun c1 => ⟨fun c2 => ⟨fun _ => ⟨rfl, badX h1 h2 (Or.inr c2)⟩, fun h => absurd rfl h⟩, fun c2 => ⟨n10, fun _ => ?_⟩⟩⟩⟩)
  have hin : vp_in p 8 := vin h1 (lt8 h2)
  have good : ∀ s : CS, wp_MO_put p x tau0 (fun r' t => wp_MO_thrown t (fun r2 t2 => Z 0 s (vf_upd f 0 0) r' r2 t2)) := by
    intro s
    unfold wp_MO_put
    refine within_of (fun h => absurd h (fun h => h.elim h1 (fun h => h2 (lt7 h)))) (fun _ _ => ⟨n10, fun _ => ?_⟩)
    refine ⟨fun h => absurd h c2, fun _ => ⟨fun h => absurd h c1, fun _ => ⟨n10, fun _ s4 e4 => ?_⟩⟩⟩
    subst e4
    refine ⟨fun _ => ⟨hin, fun _ => ⟨hin, fun s7 e7 => ?_⟩, fun _ => ⟨ha, fun _ => ⟨hin, fun s7 e7 => ?_⟩, fun _ => ⟨hs _, hin, fun s7 e7 => ?_⟩⟩⟩, fun h => absurd p00 h⟩
    · subst e7
      exact hz 0 _ _ _ _ (fun _ => ⟨rfl, rfl⟩)
    · subst e7
      exact hz 0 _ _ _ _ (fun _ => ⟨rfl, rfl⟩)
    · subst e7
      exact hz 0 _ _ _ _ (fun _ => ⟨rfl, rfl⟩)
  refine ⟨hin, fun _ => ⟨hin, fun s2 e2 => ⟨hin, good s2⟩⟩, fun _ => ⟨ha, fun _ => ⟨hin, fun s2 e2 => ⟨hin, good s2⟩⟩, fun _ => ⟨hin, fun s2 e2 => ⟨hin, good s2⟩⟩⟩⟩
/-- what fits an object with no nodes -/
def fit0 (p so : Int32) : Prop := (so = -3 → p = -1) ∧ (so ≠ -3 → so ≠ -2 ∧ (so ≠ -1 → so ≠ 0 → ¬ p < 0 ∧ ¬ so ≤ p))
theorem fits_of {p so : Int32} {Q : Int32 → CS → Prop} (h1 : fit0 p so → Q 1 sig0) (h0 : ¬ fit0 p so → Q 0 sig0) : wp_PR_fits p so sig0 Q := by
  unfold wp_PR_fits
  refine ⟨fun e => ⟨fun h => h1 ⟨fun _ => h, fun h => absurd e h⟩, fun h => has0 ⟨fun _ => h0 (fun k => h (k.1 e)), fun h => absurd rfl h⟩⟩, fun e3 => ⟨fun e => has0 ⟨vz0, h0 (fun k => (k.2 e3).1 e)⟩, fun e2 => ⟨fun e => h1 ⟨fun h => absurd h e3, fun _ => ⟨e2, fun h => absurd e h⟩⟩, fun e1 => ⟨fun e => h1 ⟨fun h => absurd h e3, fun _ => ⟨e2, fun _ h => absurd e h⟩⟩, fun e0 => below_of (fun hb => ⟨vz0, h0 (fun k => ?_)⟩) (fun g1 g2 => ⟨vz1, h1 ⟨fun h => absurd h e3, fun _ => ⟨e2, fun _ _ => ⟨g1, g2⟩⟩⟩⟩)⟩⟩⟩⟩
  exact hb.elim ((k.2 e3).2 e1 e0).1 ((k.2 e3).2 e1 e0).2
def okM (p1 p2 p3 p4 : Int32) : Prop := ¬ p1 < 0 ∧ ¬ 18 ≤ p1 ∧ fit0 p2 (soA p1.toNatClampNeg) ∧ fit0 p3 (soB p1.toNatClampNeg) ∧ fit0 p4 (soC p1.toNatClampNeg)
theorem lt18 {p : Int32} (h : ¬ (18 : Int32) ≤ p) : p.toInt < 18 := by
  rw [Int32.le_iff_toInt_le] at h
  have : (18 : Int32).toInt = 18 := rfl
  omega
theorem takes_of {p1 p2 p3 p4 : Int32} {Q : Int32 → CS → Prop} (h1 : okM p1 p2 p3 p4 → Q 1 sig0) (h0 : ¬ okM p1 p2 p3 p4 → Q 0 sig0) : wp_PR_takes p1 p2 p3 p4 sig0 Q := by
  unfold wp_PR_takes
  refine below_of (fun hb => ⟨fun _ => h0 (fun k => hb.elim k.1 k.2.1), fun h => absurd rfl h⟩) (fun g1 g2 => ⟨n10, fun _ => ⟨vin g1 (lt18 g2), fits_of (fun f1 => ⟨n10, fun _ => ⟨vin g1 (lt18 g2), fits_of (fun f2 => ⟨n10, fun _ => ⟨vin g1 (lt18 g2), fits_of (fun f3 => ⟨n10, fun _ => h1 ⟨g1, g2, f1, f2, f3⟩⟩) (fun n => ⟨fun _ => h0 (fun k => n k.2.2.2.2), fun h => absurd rfl h⟩)⟩⟩) (fun n => ⟨fun _ => h0 (fun k => n k.2.2.2.1), fun h => absurd rfl h⟩)⟩⟩) (fun n => ⟨fun _ => h0 (fun k => n k.2.2.1), fun h => absurd rfl h⟩)⟩⟩)
