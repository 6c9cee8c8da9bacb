theorem kinds18 {k : Int32} (h : vp_in k 18) : k = 0 ∨ k = 1 ∨ k = 2 ∨ k = 3 ∨ k = 4 ∨ k = 5 ∨ k = 6 ∨ k = 7 ∨ k = 8 ∨ k = 9 ∨ k = 10 ∨ k = 11 ∨ k = 12 ∨ k = 13 ∨ k = 14 ∨ k = 15 ∨ k = 16 ∨ k = 17 := by
  have h1 : ¬ k < 0 := fun g => h (Or.inl g)
  have h2 : ¬ 18 ≤ k.toNatClampNeg := fun g => h (Or.inr g)
  rw [Int32.lt_iff_toInt_lt] at h1
  have e : k.toNatClampNeg = k.toInt.toNat := rfl
  have z : (0 : Int32).toInt = 0 := rfl
  simp only [← Int32.toInt_inj]
  have e1 : (1 : Int32).toInt = 1 := rfl
  have e2 : (2 : Int32).toInt = 2 := rfl
  have e3 : (3 : Int32).toInt = 3 := rfl
  have e4 : (4 : Int32).toInt = 4 := rfl
  have e5 : (5 : Int32).toInt = 5 := rfl
  have e6 : (6 : Int32).toInt = 6 := rfl
  have e7 : (7 : Int32).toInt = 7 := rfl
  have e8 : (8 : Int32).toInt = 8 := rfl
  have e9 : (9 : Int32).toInt = 9 := rfl
  have e10 : (10 : Int32).toInt = 10 := rfl
  have e11 : (11 : Int32).toInt = 11 := rfl
  have e12 : (12 : Int32).toInt = 12 := rfl
  have e13 : (13 : Int32).toInt = 13 := rfl
  have e14 : (14 : Int32).toInt = 14 := rfl
  have e15 : (15 : Int32).toInt = 15 := rfl
  have e16 : (16 : Int32).toInt = 16 := rfl
  have e17 : (17 : Int32).toInt = 17 := rfl
  omega
def Pt (σ : CS) (p so : Int32) : Prop := (so = -3 → p = -1 ∨ NdS σ p) ∧ (so = -2 → NdS σ p) ∧ (so ≠ -3 → so ≠ -2 → so ≠ -1 → so ≠ 0 → Bl p so)
theorem fits_or {p so : Int32} {σ : CS} {X : Int32 → CS → Prop} (h1 : Pt σ p so → X 1 σ) (h0 : ¬ Pt σ p so → X 0 σ) : wp_PR_fits p so σ X := by
  refine ⟨fun c => ⟨fun e => h1 ⟨fun _ => Or.inl e, fun g => absurd (c ▸ g) (by decide), fun g => absurd c g⟩, fun e => has_or (fun n => sk (by decide) (h1 ⟨fun _ => Or.inr n, fun g => absurd (c ▸ g) (by decide), fun g => absurd c g⟩)) (fun n => tk rfl (h0 (fun y => (y.1 c).elim e n)))⟩, fun c3 => ⟨fun c => has_or (fun n => ⟨vz1, h1 ⟨fun g => absurd g c3, fun _ => n, fun _ g => absurd c g⟩⟩) (fun n => ⟨vz0, h0 (fun y => n (y.2.1 c))⟩), fun c2 => ⟨fun c => h1 ⟨fun g => absurd g c3, fun g => absurd g c2, fun _ _ g => absurd c g⟩, fun c1 => ⟨fun c => h1 ⟨fun g => absurd g c3, fun g => absurd g c2, fun _ _ _ g => absurd c g⟩, fun c0 => below_or (fun b => ⟨vz1, h1 ⟨fun g => absurd g c3, fun g => absurd g c2, fun _ _ _ _ => b⟩⟩) (fun b => ⟨vz0, h0 (fun y => b (y.2.2 c3 c2 c1 c0))⟩)⟩⟩⟩⟩
def Fit (σ : CS) (k a b c : Int32) : Prop := Bl k 18 ∧ Pt σ a (soA k.toNatClampNeg) ∧ Pt σ b (soB k.toNatClampNeg) ∧ Pt σ c (soC k.toNatClampNeg)
theorem takes_or {k a b c : Int32} {σ : CS} {X : Int32 → CS → Prop} (h1 : Fit σ k a b c → X 1 σ) (h0 : ¬ Fit σ k a b c → X 0 σ) : wp_PR_takes k a b c σ X :=
  below_or (fun b1 => sk (by decide) ⟨b1.inn rfl, fits_or (fun f1 => sk (by decide) ⟨b1.inn rfl, fits_or (fun f2 => sk (by decide) ⟨b1.inn rfl, fits_or (fun f3 => sk (by decide) (h1 ⟨b1, f1, f2, f3⟩)) (fun f => tk rfl (h0 (fun y => f y.2.2.2)))⟩) (fun f => tk rfl (h0 (fun y => f y.2.2.1)))⟩) (fun f => tk rfl (h0 (fun y => f y.2.1)))⟩) (fun b => tk rfl (h0 (fun y => b y.1)))
theorem pt_m2 {σ : CS} {p so : Int32} (e : so = -2) : Pt σ p so ↔ NdS σ p := ⟨fun y => y.2.1 e, fun n => ⟨fun g => absurd (e ▸ g) (by decide), fun _ => n, fun _ g => absurd e g⟩⟩
theorem pt_m3 {σ : CS} {p so : Int32} (e : so = -3) : Pt σ p so ↔ (p = -1 ∨ NdS σ p) := ⟨fun y => y.1 e, fun n => ⟨fun _ => n, fun g => absurd (e ▸ g) (by decide), fun g => absurd e g⟩⟩
theorem pt_m1 {σ : CS} {p so : Int32} (e : so = -1) : Pt σ p so ↔ True := ⟨fun _ => trivial, fun _ => ⟨fun g => absurd (e ▸ g) (by decide), fun g => absurd (e ▸ g) (by decide), fun _ _ g => absurd e g⟩⟩
theorem pt_0 {σ : CS} {p so : Int32} (e : so = 0) : Pt σ p so ↔ True := ⟨fun _ => trivial, fun _ => ⟨fun g => absurd (e ▸ g) (by decide), fun g => absurd (e ▸ g) (by decide), fun _ _ _ g => absurd e g⟩⟩
theorem pt_n {σ : CS} {p so : Int32} {n : Int32} (e : so = n) (h3 : n ≠ -3) (h2 : n ≠ -2) (h1 : n ≠ -1) (h0 : n ≠ 0) : Pt σ p so ↔ Bl p n := by
  subst e
  exact ⟨fun y => y.2.2 h3 h2 h1 h0, fun b => ⟨fun g => absurd g h3, fun g => absurd g h2, fun _ _ _ _ => b⟩⟩
theorem so0 : soA (0 : Int32).toNatClampNeg = -1 ∧ soB (0 : Int32).toNatClampNeg = 0 ∧ soC (0 : Int32).toNatClampNeg = 0 := by decide
theorem so1 : soA (1 : Int32).toNatClampNeg = 8 ∧ soB (1 : Int32).toNatClampNeg = 0 ∧ soC (1 : Int32).toNatClampNeg = 0 := by decide
theorem so2 : ∀ k : Int32, (k = 2 ∨ k = 3 ∨ k = 4 ∨ k = 5 ∨ k = 6 ∨ k = 7 ∨ k = 8 ∨ k = 13 ∨ k = 14 ∨ k = 15) → soA k.toNatClampNeg = -2 ∧ soB k.toNatClampNeg = -2 ∧ soC k.toNatClampNeg = 0 := by
  rintro k (rfl | rfl | rfl | rfl | rfl | rfl | rfl | rfl | rfl | rfl) <;> decide
theorem so9 : soA (9 : Int32).toNatClampNeg = -2 ∧ soB (9 : Int32).toNatClampNeg = -2 ∧ soC (9 : Int32).toNatClampNeg = -2 := by decide
theorem so10 : soA (10 : Int32).toNatClampNeg = 2 ∧ soB (10 : Int32).toNatClampNeg = 0 ∧ soC (10 : Int32).toNatClampNeg = 0 := by decide
theorem so11 : soA (11 : Int32).toNatClampNeg = 2 ∧ soB (11 : Int32).toNatClampNeg = 0 ∧ soC (11 : Int32).toNatClampNeg = 0 := by decide
theorem so12 : soA (12 : Int32).toNatClampNeg = 4 ∧ soB (12 : Int32).toNatClampNeg = -3 ∧ soC (12 : Int32).toNatClampNeg = -3 := by decide
theorem so16 : soA (16 : Int32).toNatClampNeg = 4 ∧ soB (16 : Int32).toNatClampNeg = 0 ∧ soC (16 : Int32).toNatClampNeg = 0 := by decide
theorem so17 : soA (17 : Int32).toNatClampNeg = 4 ∧ soB (17 : Int32).toNatClampNeg = -2 ∧ soC (17 : Int32).toNatClampNeg = 0 := by decide
theorem bl18 {k : Int32} (h : vp_in k 18) : Bl k 18 := ⟨fun g => h (Or.inl g), fun g => by
  have h2 : ¬ 18 ≤ k.toNatClampNeg := fun g => h (Or.inr g)
  rw [Int32.le_iff_toInt_le, show (18 : Int32).toInt = 18 from rfl] at g
  have e : k.toNatClampNeg = k.toInt.toNat := rfl
  omega⟩
/-- the pure words of what is taken -/
theorem fit_0 {σ : CS} {a b c : Int32} : Fit σ 0 a b c := ⟨bl18 (by unfold vp_in; decide), (pt_m1 so0.1).mpr trivial, (pt_0 so0.2.1).mpr trivial, (pt_0 so0.2.2).mpr trivial⟩
theorem fit_s {σ : CS} {k n a b c : Int32} (hk : vp_in k 18) (e : soA k.toNatClampNeg = n ∧ soB k.toNatClampNeg = 0 ∧ soC k.toNatClampNeg = 0) (h3 : n ≠ -3) (h2 : n ≠ -2) (h1 : n ≠ -1) (h0 : n ≠ 0) : Fit σ k a b c ↔ Bl a n :=
  ⟨fun y => (pt_n e.1 h3 h2 h1 h0).mp y.2.1, fun y => ⟨bl18 hk, (pt_n e.1 h3 h2 h1 h0).mpr y, (pt_0 e.2.1).mpr trivial, (pt_0 e.2.2).mpr trivial⟩⟩
theorem fit_2 {σ : CS} {k a b c : Int32} (hk : vp_in k 18) (e : soA k.toNatClampNeg = -2 ∧ soB k.toNatClampNeg = -2 ∧ soC k.toNatClampNeg = 0) : Fit σ k a b c ↔ NdS σ a ∧ NdS σ b :=
  ⟨fun y => ⟨(pt_m2 e.1).mp y.2.1, (pt_m2 e.2.1).mp y.2.2.1⟩, fun y => ⟨bl18 hk, (pt_m2 e.1).mpr y.1, (pt_m2 e.2.1).mpr y.2, (pt_0 e.2.2).mpr trivial⟩⟩
theorem fit_9 {σ : CS} {a b c : Int32} : Fit σ 9 a b c ↔ NdS σ a ∧ NdS σ b ∧ NdS σ c :=
  ⟨fun y => ⟨(pt_m2 so9.1).mp y.2.1, (pt_m2 so9.2.1).mp y.2.2.1, (pt_m2 so9.2.2).mp y.2.2.2⟩, fun y => ⟨bl18 (by unfold vp_in; decide), (pt_m2 so9.1).mpr y.1, (pt_m2 so9.2.1).mpr y.2.1, (pt_m2 so9.2.2).mpr y.2.2⟩⟩
theorem fit_12 {σ : CS} {a b c : Int32} : Fit σ 12 a b c ↔ Bl a 4 ∧ (b = -1 ∨ NdS σ b) ∧ (c = -1 ∨ NdS σ c) :=
  ⟨fun y => ⟨(pt_n so12.1 (by decide) (by decide) (by decide) (by decide)).mp y.2.1, (pt_m3 so12.2.1).mp y.2.2.1, (pt_m3 so12.2.2).mp y.2.2.2⟩, fun y => ⟨bl18 (by unfold vp_in; decide), (pt_n so12.1 (by decide) (by decide) (by decide) (by decide)).mpr y.1, (pt_m3 so12.2.1).mpr y.2.1, (pt_m3 so12.2.2).mpr y.2.2⟩⟩
theorem fit_17 {σ : CS} {a b c : Int32} : Fit σ 17 a b c ↔ Bl a 4 ∧ NdS σ b :=
  ⟨fun y => ⟨(pt_n so17.1 (by decide) (by decide) (by decide) (by decide)).mp y.2.1, (pt_m2 so17.2.1).mp y.2.2.1⟩, fun y => ⟨bl18 (by unfold vp_in; decide), (pt_n so17.1 (by decide) (by decide) (by decide) (by decide)).mpr y.1, (pt_m2 so17.2.1).mpr y.2, (pt_0 so17.2.2).mpr trivial⟩⟩
section MAKE
variable {σ τ : CS}
theorem rfits_or {k a b c : Int32} {X : Int32 → CS → Prop} (j : JJ σ τ) (h1 : Fit σ k a b c → X 1 τ) (h0 : ¬ Fit σ k a b c → X 0 τ) : wp_MO_fits k a b c τ X := by
  have e0 := j.2.2.1.2.1.1
  have b0 := j.2.2.2.2.2.2
  by_cases hk : vp_in k 18
  · have two : (k = 2 ∨ k = 3 ∨ k = 4 ∨ k = 5 ∨ k = 6 ∨ k = 7 ∨ k = 8 ∨ k = 13 ∨ k = 14 ∨ k = 15) → wp_MO_fits k a b c τ X := fun hh => by
      have ft := fit_2 (σ := σ) (a := a) (b := b) (c := c) hk (so2 k hh)
      have go : wp_MO_within k 2 15 τ (fun r47 s48 => ((r47 = 0 → X 0 s48) ∧ (¬ r47 = 0 → (wp_MO_isNode a s48 (fun r50 s51 => ((r50 = 0 → X 0 s51) ∧ (¬ r50 = 0 → (wp_MO_isNode b s51 (fun r53 s54 => ((r53 = 0 → X 0 s54) ∧ (¬ r53 = 0 → X 1 s54))))))))))) := by
        have l1 : ¬ k < 2 ∧ ¬ 15 < k := by rcases hh with rfl | rfl | rfl | rfl | rfl | rfl | rfl | rfl | rfl | rfl <;> decide
        exact sk l1.1 (sk l1.2 (sk (by decide) (isNode_or e0 b0 (fun n1 => sk (by decide) (isNode_or e0 b0 (fun n2 => sk (by decide) (h1 (ft.mpr ⟨n1, n2⟩))) (fun n => tk rfl (h0 (fun y => n (ft.mp y).2))))) (fun n => tk rfl (h0 (fun y => n (ft.mp y).1))))))
      rcases hh with rfl | rfl | rfl | rfl | rfl | rfl | rfl | rfl | rfl | rfl <;> exact sk (by decide) (sk (by decide) (sk (by decide) (sk (by decide) (sk (by decide) (sk (by decide) (sk (by decide) (sk (by decide) go)))))))
    rcases kinds18 hk with e | e | e | e | e | e | e | e | e | e | e | e | e | e | e | e | e | e
    · subst e; exact tk rfl (h1 fit_0)
    · subst e
      have ft := fit_s (σ := σ) (a := a) (b := b) (c := c) hk so1 (by decide) (by decide) (by decide) (by decide)
      exact sk (by decide) (tk rfl (within_or rfl (fun y => ⟨vz1, h1 (ft.mpr y)⟩) (fun y => ⟨vz0, h0 (fun z => y (ft.mp z))⟩)))
    · exact two (Or.inl e)
    · exact two (Or.inr (Or.inl e))
    · exact two (Or.inr (Or.inr (Or.inl e)))
    · exact two (Or.inr (Or.inr (Or.inr (Or.inl e))))
    · exact two (Or.inr (Or.inr (Or.inr (Or.inr (Or.inl e)))))
    · exact two (Or.inr (Or.inr (Or.inr (Or.inr (Or.inr (Or.inl e))))))
    · exact two (Or.inr (Or.inr (Or.inr (Or.inr (Or.inr (Or.inr (Or.inl e)))))))
    · subst e
      exact sk (by decide) (sk (by decide) (tk rfl (isNode_or e0 b0 (fun n1 => sk (by decide) (isNode_or e0 b0 (fun n2 => sk (by decide) (isNode_or e0 b0 (fun n3 => sk (by decide) (h1 (fit_9.mpr ⟨n1, n2, n3⟩))) (fun n => tk rfl (h0 (fun y => n (fit_9.mp y).2.2))))) (fun n => tk rfl (h0 (fun y => n (fit_9.mp y).2.1))))) (fun n => tk rfl (h0 (fun y => n (fit_9.mp y).1))))))
    · subst e
      have ft := fit_s (σ := σ) (a := a) (b := b) (c := c) hk so10 (by decide) (by decide) (by decide) (by decide)
      exact sk (by decide) (sk (by decide) (sk (by decide) (tk rfl (within_or rfl (fun y => ⟨vz1, h1 (ft.mpr y)⟩) (fun y => ⟨vz0, h0 (fun z => y (ft.mp z))⟩)))))
    · subst e
      have ft := fit_s (σ := σ) (a := a) (b := b) (c := c) hk so11 (by decide) (by decide) (by decide) (by decide)
      exact sk (by decide) (sk (by decide) (sk (by decide) (sk (by decide) (tk rfl (within_or rfl (fun y => ⟨vz1, h1 (ft.mpr y)⟩) (fun y => ⟨vz0, h0 (fun z => y (ft.mp z))⟩))))))
    · subst e
      refine sk (by decide) (sk (by decide) (sk (by decide) (sk (by decide) (sk (by decide) (tk rfl (within_or (n := 4) rfl (fun n1 => sk (by decide) ⟨fun eb => ⟨fun ec => h1 (fit_12.mpr ⟨n1, Or.inl eb, Or.inl ec⟩), fun ec => isNode_or e0 b0 (fun n3 => sk (by decide) (h1 (fit_12.mpr ⟨n1, Or.inl eb, Or.inr n3⟩))) (fun n => tk rfl (h0 (fun y => (fit_12.mp y).2.2.elim ec n)))⟩, fun eb => isNode_or e0 b0 (fun n2 => sk (by decide) ⟨fun ec => h1 (fit_12.mpr ⟨n1, Or.inr n2, Or.inl ec⟩), fun ec => isNode_or e0 b0 (fun n3 => sk (by decide) (h1 (fit_12.mpr ⟨n1, Or.inr n2, Or.inr n3⟩))) (fun n => tk rfl (h0 (fun y => (fit_12.mp y).2.2.elim ec n)))⟩) (fun n => tk rfl (h0 (fun y => (fit_12.mp y).2.1.elim eb n)))⟩) (fun n => tk rfl (h0 (fun y => n (fit_12.mp y).1)))))))))
    · exact two (Or.inr (Or.inr (Or.inr (Or.inr (Or.inr (Or.inr (Or.inr (Or.inl e))))))))
    · exact two (Or.inr (Or.inr (Or.inr (Or.inr (Or.inr (Or.inr (Or.inr (Or.inr (Or.inl e)))))))))
    · exact two (Or.inr (Or.inr (Or.inr (Or.inr (Or.inr (Or.inr (Or.inr (Or.inr (Or.inr e)))))))))
    · subst e
      have ft := fit_s (σ := σ) (a := a) (b := b) (c := c) hk so16 (by decide) (by decide) (by decide) (by decide)
      exact sk (by decide) (sk (by decide) (sk (by decide) (sk (by decide) (sk (by decide) (sk (by decide) (tk rfl (within_or rfl (fun y => ⟨vz1, h1 (ft.mpr y)⟩) (fun y => ⟨vz0, h0 (fun z => y (ft.mp z))⟩))))))))
    · subst e
      exact sk (by decide) (sk (by decide) (sk (by decide) (sk (by decide) (sk (by decide) (sk (by decide) (sk (by decide) (tk rfl (within_or (n := 4) rfl (fun n1 => sk (by decide) (isNode_or e0 b0 (fun n2 => sk (by decide) (h1 (fit_17.mpr ⟨n1, n2⟩))) (fun n => tk rfl (h0 (fun y => n (fit_17.mp y).2))))) (fun n => tk rfl (h0 (fun y => n (fit_17.mp y).1)))))))))))
  · have no : ∀ m : Int32, vp_in m 18 → ¬ k = m := fun m hm e => hk (e ▸ hm)
    have nf : ¬ Fit σ k a b c := fun y => hk (y.1.inn rfl)
    have out : k < 2 ∨ 15 < k := by
      refine Decidable.byContradiction (fun h => hk ?_)
      have l1 : ¬ k < 2 := fun g => h (Or.inl g)
      have l2 : ¬ 15 < k := fun g => h (Or.inr g)
      rw [Int32.lt_iff_toInt_lt, show (2 : Int32).toInt = 2 from rfl] at l1
      rw [Int32.lt_iff_toInt_lt, show (15 : Int32).toInt = 15 from rfl] at l2
      refine vin ?_ (by omega)
      rw [Int32.lt_iff_toInt_lt, show (0 : Int32).toInt = 0 from rfl]
      omega
    refine sk (no 0 (by unfold vp_in; decide)) (sk (no 1 (by unfold vp_in; decide)) (sk (no 9 (by unfold vp_in; decide)) (sk (no 10 (by unfold vp_in; decide)) (sk (no 11 (by unfold vp_in; decide)) (sk (no 12 (by unfold vp_in; decide)) (sk (no 16 (by unfold vp_in; decide)) (sk (no 17 (by unfold vp_in; decide)) ⟨fun _ => tk rfl (h0 nf), fun l1 => ⟨fun _ => tk rfl (h0 nf), fun l2 => ?_⟩⟩)))))))
    exact out.elim (fun g => absurd g l1) (fun g => absurd g l2)
/-- the four cells of a node -/
def MK4 (σ : CS) (n : Nat) (k a b c : Int32) : CS :=
  sA (sA (sA (sA σ 0 (upd (gA σ 0) n k)) 1 (upd (gA (sA σ 0 (upd (gA σ 0) n k)) 1) n a)) 2 (upd (gA (sA (sA σ 0 (upd (gA σ 0) n k)) 1 (upd (gA (sA σ 0 (upd (gA σ 0) n k)) 1) n a)) 2) n b)) 3 (upd (gA (sA (sA (sA σ 0 (upd (gA σ 0) n k)) 1 (upd (gA (sA σ 0 (upd (gA σ 0) n k)) 1) n a)) 2 (upd (gA (sA (sA σ 0 (upd (gA σ 0) n k)) 1 (upd (gA (sA σ 0 (upd (gA σ 0) n k)) 1) n a)) 2) n b)) 3) n c)
theorem MK_A {n : Nat} {k a b c : Int32} {i : Nat} (hi : 4 ≤ i) : gA (MK4 σ n k a b c) i = gA σ i := by
  unfold MK4
  rw [gA_s (by omega), gA_s (by omega), gA_s (by omega), gA_s (by omega)]
theorem MK_0 {n : Nat} {k a b c : Int32} : gA (MK4 σ n k a b c) 0 = upd (gA σ 0) n k := by
  unfold MK4
  rw [gA_s (by decide), gA_s (by decide), gA_s (by decide), gA_sA]
theorem MK_1 {n : Nat} {k a b c : Int32} : gA (MK4 σ n k a b c) 1 = upd (gA σ 1) n a := by
  unfold MK4
  rw [gA_s (by decide), gA_s (by decide), gA_sA, gA_s (by decide)]
theorem MK_2 {n : Nat} {k a b c : Int32} : gA (MK4 σ n k a b c) 2 = upd (gA σ 2) n b := by
  unfold MK4
  rw [gA_s (by decide), gA_sA, gA_s (by decide), gA_s (by decide)]
theorem MK_3 {n : Nat} {k a b c : Int32} : gA (MK4 σ n k a b c) 3 = upd (gA σ 3) n c := by
  unfold MK4
  rw [gA_sA, gA_s (by decide), gA_s (by decide), gA_s (by decide)]
theorem MK_I {n : Nat} {k a b c : Int32} {i : Nat} : gI (MK4 σ n k a b c) i = gI σ i := rfl
theorem MK_D {n : Nat} {k a b c : Int32} {i : Nat} : gD (MK4 σ n k a b c) i = gD σ i := rfl
theorem MK_C {n : Nat} {k a b c : Int32} {i : Nat} : gC (MK4 σ n k a b c) i = gC σ i := rfl
def b' (k b : Int32) : Int32 := if soB k.toNatClampNeg = 0 then -1 else b
def c' (k c : Int32) : Int32 := if soC k.toNatClampNeg = 0 then -1 else c
theorem add_to {k a b c : Int32} {X : Int32 → CS → Prop} (h8 : vp_in (gI σ 8) 48) (hk : vp_in k 18) (hX : X (gI σ 8) (sI (MK4 σ (gI σ 8).toNatClampNeg k a (b' k b) (c' k c)) 8 (gI σ 8 + 1))) : wp_PR_add k a b c σ X := by
  have fin : ∀ s : CS, s = sI (MK4 σ (gI σ 8).toNatClampNeg k a (b' k b) (c' k c)) 8 (gI σ 8 + 1) → X ((gI s 8) - 1) s := fun s es => by
    rw [es, gI_sI, Int32.add_sub_cancel]
    exact hX
  refine ⟨h8, fun s1 e1 => ⟨by rw [e1]; exact h8, fun s2 e2 => ⟨hk, fun cb => ⟨by rw [e2, e1]; exact h8, fun s10 e10 => ⟨hk, fun cc => ⟨by rw [e10, e2, e1]; exact h8, fun s14 e14 s15 e15 => fin s15 ?_⟩, fun cc => ⟨by rw [e10, e2, e1]; exact h8, fun s14 e14 s15 e15 => fin s15 ?_⟩⟩⟩, fun cb => ⟨by rw [e2, e1]; exact h8, fun s10 e10 => ⟨hk, fun cc => ⟨by rw [e10, e2, e1]; exact h8, fun s14 e14 s15 e15 => fin s15 ?_⟩, fun cc => ⟨by rw [e10, e2, e1]; exact h8, fun s14 e14 s15 e15 => fin s15 ?_⟩⟩⟩⟩⟩⟩
  · rw [show b' k b = -1 from if_pos cb, show c' k c = -1 from if_pos cc]
    subst e15 e14 e10 e2 e1
    rfl
  · rw [show b' k b = -1 from if_pos cb, show c' k c = c from if_neg cc]
    subst e15 e14 e10 e2 e1
    rfl
  · rw [show b' k b = b from if_neg cb, show c' k c = -1 from if_pos cc]
    subst e15 e14 e10 e2 e1
    rfl
  · rw [show b' k b = b from if_neg cb, show c' k c = c from if_neg cc]
    subst e15 e14 e10 e2 e1
    rfl
end MAKE
