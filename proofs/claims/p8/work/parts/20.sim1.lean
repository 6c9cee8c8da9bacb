theorem sk {c A B : Prop} (h : ¬ c) (b : B) : (c → A) ∧ (¬ c → B) := ⟨fun g => absurd g h, fun _ => b⟩
theorem tk {c A B : Prop} (h : c) (a : A) : (c → A) ∧ (¬ c → B) := ⟨fun _ => a, fun g => absurd h g⟩
def Gos (τ τ' : CS) : Prop := ∀ p Q x k, lp_MO_work_71 p Q k x τ' → ∃ k', lp_MO_work_71 p Q k' x τ
theorem Gos.rf (τ : CS) : Gos τ τ := fun _ _ _ k h => ⟨k, h⟩
theorem Gos.tr {a b c : CS} (h : Gos a b) (g : Gos b c) : Gos a c := fun p Q x k q => by
  obtain ⟨k1, h1⟩ := g p Q x k q
  exact h p Q x k1 h1
def Ent (n e : Int32) (τ τ' : CS) : Prop := ∃ τ1, (∀ X : CS → Prop, X τ1 → wp_MO_enter n e τ X) ∧ Gos τ1 τ'
theorem Gos_step {τ τ1 : CS} (ht : ¬ gI τ 8 ≤ 0) (h0 : gI τ 10 = 0) (h : ∀ X : CS → Prop, X τ1 → wp_MO_step τ X) : Gos τ τ1 := fun p Q x k q =>
  ⟨k + 1, by
    unfold lp_MO_work_71
    exact sk ht (tk h0 (h _ q))⟩
theorem Gos_ent {τ τ2 τ' : CS} {n e : Int32} (ht : ¬ gI τ 8 ≤ 0) (h0 : gI τ 10 = 0) (h : ∀ X : CS → Prop, wp_MO_enter n e τ2 X → wp_MO_step τ X) (g : Ent n e τ2 τ') : Gos τ τ' := by
  obtain ⟨τ1, g1, g2⟩ := g
  exact (Gos_step ht h0 (fun X hX => h X (g1 X hX))).tr g2
def en (h : Nat) : Int32 := if h = 8 then 0 else Int32.ofNat (h + 1)
def Lk (σ τ : CS) : Prop := (gA τ 0 = gA σ 0 ∧ gA τ 1 = gA σ 1 ∧ gA τ 2 = gA σ 2 ∧ gA τ 3 = gA σ 3 ∧ gA τ 4 = gA σ 4 ∧ gA τ 5 = gA σ 5 ∧ gA τ 6 = gA σ 6) ∧
  (gI τ 0 = gI σ 8 ∧ gI τ 1 = gI σ 9 ∧ gI τ 2 = gI σ 10 ∧ gI τ 3 = gI σ 11 ∧ gI τ 4 = gI σ 12) ∧ gD τ 0 = gD σ 0 ∧ gD τ 1 = gD σ 1
abbrev bit (v a : Int32) : Prop := ((v >>> (a &&& 31)) &&& 1) = 1
def En (σ τ : CS) : Prop := ∀ h, h < 8 → ∀ c, gC σ h = some c → gA τ 9 (h + 1) = gI σ (20 + h) ∧ gA τ 10 (h + 1) = gI σ (30 + h) ∧
  ∀ k, k < 2 → gA τ 7 (2 * (h + 1) + k) = gA σ (10 + h) k ∧ gA τ 8 (2 * (h + 1) + k) = en c ∧ gD τ 3 (2 * (h + 1) + k) = gD σ (20 + h) k ∧
    (¬ gI σ (20 + h) ≤ Int32.ofNat k → ¬ bit (gI σ (30 + h)) (Int32.ofNat k) → gD τ 2 (2 * (h + 1) + k) = gD σ (10 + h) k)
abbrev Mt (τ : CS) (a : Int32) (f : Nat) : Prop := gA τ 0 (gA τ 11 f).toNatClampNeg = 17 ∧ gA τ 1 (gA τ 11 f).toNatClampNeg = a
def Lb (σ τ : CS) (t : Nat) : Prop := ∀ a, vp_in a 4 → ∃ c : Nat, c ≤ t ∧ gA σ 7 a.toNatClampNeg = Int32.ofNat c ∧ (c = 0 ↔ ∀ f, f < t → ¬ Mt τ a f)
def Rb (σ τ : CS) (t : Nat) : Prop := Lk σ τ ∧ En σ τ ∧ gI τ 9 = gI σ 0 ∧ gI τ 10 = 0 ∧ Lb σ τ t ∧ ∀ f, f < t → vp_in (gA τ 11 f) 48
def Rl (σ τ : CS) (t : Nat) : Prop := Rb σ τ t ∧ gI τ 8 = Int32.ofNat t ∧ gI τ 6 = gI σ 5 ∧ gI τ 7 = gI σ 6
def Fdn (σ τ : CS) (t : Nat) : Prop := gI τ 8 = Int32.ofNat (t + 1) ∧ gA τ 14 t = gI σ 6 ∧ gA τ 15 t = gI σ 5
def Kp (τ τ' : CS) (t : Nat) : Prop := (∀ j, 11 ≤ j → j ≤ 17 → ∀ f, f < t → gA τ' j f = gA τ j f) ∧ (∀ j, 4 ≤ j → j ≤ 5 → ∀ f, f < t → gD τ' j f = gD τ j f)
theorem Kp.rf (τ : CS) (t : Nat) : Kp τ τ t := ⟨fun _ _ _ _ _ => rfl, fun _ _ _ _ _ => rfl⟩
theorem Kp.tr {a b c : CS} {t : Nat} (h : Kp a b t) (g : Kp b c t) : Kp a c t := ⟨fun j h1 h2 f hf => (g.1 j h1 h2 f hf).trans (h.1 j h1 h2 f hf), fun j h1 h2 f hf => (g.2 j h1 h2 f hf).trans (h.2 j h1 h2 f hf)⟩
theorem Kp.lo {a b : CS} {t u : Nat} (h : Kp a b t) (hu : u ≤ t) : Kp a b u := ⟨fun j h1 h2 f hf => h.1 j h1 h2 f (by omega), fun j h1 h2 f hf => h.2 j h1 h2 f (by omega)⟩
def Sm (τ τ2 : CS) : Prop := (∀ j, j ≤ 12 → gA τ2 j = gA τ j) ∧ (∀ j, j ≤ 3 → gD τ2 j = gD τ j) ∧ (∀ j, gI τ2 j = gI τ j)
theorem Sm.rf (τ : CS) : Sm τ τ := ⟨fun _ _ => rfl, fun _ _ => rfl, fun _ => rfl⟩
theorem Sm.tr {a b c : CS} (h : Sm a b) (g : Sm b c) : Sm a c := ⟨fun j hj => (g.1 j hj).trans (h.1 j hj), fun j hj => (g.2.1 j hj).trans (h.2.1 j hj), fun j => (g.2.2 j).trans (h.2.2 j)⟩
theorem Sm_A {τ : CS} {j : Nat} {v : Nat → Int32} (h : 13 ≤ j) : Sm τ (sA τ j v) := ⟨fun i hi => gA_s (by omega), fun _ _ => rfl, fun _ => rfl⟩
theorem Sm_D {τ : CS} {j : Nat} {v : Nat → UInt64} (h : 4 ≤ j) : Sm τ (sD τ j v) := ⟨fun _ _ => rfl, fun i hi => gD_s (by omega), fun _ => rfl⟩
theorem upd_ne {f : Nat → Int32} {k j : Nat} {v : Int32} (h : j ≠ k) : upd f k v j = f j := if_neg h
theorem upd_self {f : Nat → Int32} {k : Nat} {v : Int32} : upd f k v k = v := if_pos rfl
theorem vfu_ne {f : Nat → UInt64} {k j : Nat} {v : UInt64} (h : j ≠ k) : vf_upd f k v j = f j := if_neg h
theorem vfu_self {f : Nat → UInt64} {k : Nat} {v : UInt64} : vf_upd f k v k = v := if_pos rfl
theorem Kp_A {τ : CS} {j t : Nat} {v : Int32} : Kp τ (sA τ j (upd (gA τ j) t v)) t := ⟨fun i _ _ f hf => by
  by_cases e : i = j
  · subst e
    rw [gA_sA, upd_ne (by omega)]
  · rw [gA_s e], fun _ _ _ _ _ => rfl⟩
theorem Kp_D {τ : CS} {j t : Nat} {v : UInt64} : Kp τ (sD τ j (vf_upd (gD τ j) t v)) t := ⟨fun _ _ _ _ _ => rfl, fun i _ _ f hf => by
  by_cases e : i = j
  · subst e
    rw [gD_sD, vfu_ne (by omega)]
  · rw [gD_s e]⟩
theorem Lk.sm {σ τ τ2 : CS} (h : Lk σ τ) (g : Sm τ τ2) : Lk σ τ2 := by
  obtain ⟨⟨a0, a1, a2, a3, a4, a5, a6⟩, ⟨i0, i1, i2, i3, i4⟩, d0, d1⟩ := h
  obtain ⟨ga, gd, gi⟩ := g
  exact ⟨⟨(ga 0 (by omega)).trans a0, (ga 1 (by omega)).trans a1, (ga 2 (by omega)).trans a2, (ga 3 (by omega)).trans a3, (ga 4 (by omega)).trans a4, (ga 5 (by omega)).trans a5, (ga 6 (by omega)).trans a6⟩, ⟨(gi 0).trans i0, (gi 1).trans i1, (gi 2).trans i2, (gi 3).trans i3, (gi 4).trans i4⟩, (gd 0 (by omega)).trans d0, (gd 1 (by omega)).trans d1⟩
theorem En.sm {σ τ τ2 : CS} (h : En σ τ) (g : Sm τ τ2) : En σ τ2 := by
  obtain ⟨ga, gd, gi⟩ := g
  intro h8 h9 c hc
  rw [ga 9 (by omega), ga 10 (by omega), ga 7 (by omega), ga 8 (by omega), gd 2 (by omega), gd 3 (by omega)]
  exact h h8 h9 c hc
theorem Mt.sm {τ τ2 : CS} {a : Int32} {f : Nat} (ga0 : gA τ2 0 = gA τ 0) (ga1 : gA τ2 1 = gA τ 1) (gf : gA τ2 11 f = gA τ 11 f) : Mt τ2 a f ↔ Mt τ a f := by
  unfold Mt
  rw [ga0, ga1, gf]
theorem Lb.sm {σ τ τ2 : CS} {t : Nat} (h : Lb σ τ t) (ga0 : gA τ2 0 = gA τ 0) (ga1 : gA τ2 1 = gA τ 1) (gf : ∀ f, f < t → gA τ2 11 f = gA τ 11 f) : Lb σ τ2 t := by
  intro a ha
  obtain ⟨c, h1, h2, h3⟩ := h a ha
  refine ⟨c, h1, h2, h3.trans ⟨fun g f hf => ?_, fun g f hf => ?_⟩⟩
  · rw [Mt.sm ga0 ga1 (gf f hf)]; exact g f hf
  · rw [← Mt.sm ga0 ga1 (gf f hf)]; exact g f hf
theorem Rb.sm {σ τ τ2 : CS} {t : Nat} (h : Rb σ τ t) (g : Sm τ τ2) : Rb σ τ2 t := by
  obtain ⟨h1, h2, h3, h4, h5, h6⟩ := h
  exact ⟨h1.sm g, h2.sm g, (g.2.2 9).trans h3, (g.2.2 10).trans h4, h5.sm (g.1 0 (by omega)) (g.1 1 (by omega)) (fun f _ => by rw [g.1 11 (by omega)]), fun f hf => by rw [g.1 11 (by omega)]; exact h6 f hf⟩
theorem Rl.sm {σ τ τ2 : CS} {t : Nat} (h : Rl σ τ t) (g : Sm τ τ2) : Rl σ τ2 t := ⟨h.1.sm g, (g.2.2 8).trans h.2.1, (g.2.2 6).trans h.2.2.1, (g.2.2 7).trans h.2.2.2⟩
theorem t_int {t : Nat} (h : t ≤ 500) : (Int32.ofNat t).toInt = t := by
  rw [Int32.toInt_ofNat', show Int32.size = 4294967296 from rfl, Int.bmod_eq_of_le (by omega) (by omega)]
theorem t_nat {t : Nat} (h : t ≤ 500) : (Int32.ofNat t).toNatClampNeg = t := by
  have := t_int h
  have e : (Int32.ofNat t).toNatClampNeg = (Int32.ofNat t).toInt.toNat := rfl
  omega
theorem t_add {t : Nat} (h : t ≤ 400) : Int32.ofNat t + 1 = Int32.ofNat (t + 1) := by
  rw [← Int32.toInt_inj, Int32.toInt_add, t_int (by omega), t_int (by omega), show (1 : Int32).toInt = 1 from rfl, Int.bmod_eq_of_le (by omega) (by omega)]
  rfl
theorem t_sub {t : Nat} (h : t ≤ 400) : Int32.ofNat (t + 1) - 1 = Int32.ofNat t := by
  rw [← t_add h]
  exact Int32.add_sub_cancel _ _
theorem t_in {t N : Nat} (h : t < N) (hN : N ≤ 400) : vp_in (Int32.ofNat t) N := by
  unfold vp_in
  rintro (g | g)
  · rw [Int32.lt_iff_toInt_lt, t_int (by omega)] at g
    have : (0 : Int32).toInt = 0 := rfl
    omega
  · rw [t_nat (by omega)] at g
    omega
theorem t_pos {t : Nat} (h : t ≤ 300) : ¬ Int32.ofNat (t + 1) ≤ 0 := by
  rw [Int32.le_iff_toInt_le, t_int (by omega)]
  have : (0 : Int32).toInt = 0 := rfl
  omega
theorem t_n80 {t : Nat} (h : t < 80) : ¬ Int32.ofNat t = 80 := by
  rw [← Int32.toInt_inj, t_int (by omega)]
  have : (80 : Int32).toInt = 80 := rfl
  omega
def ET (n e : Int32) (τ : CS) (t : Nat) : CS :=
  sI (sA (sA (sA (sA (sA (sI τ 9 (gI τ 9 + 1)) 11 (upd (gA τ 11) t n)) 12 (upd (gA τ 12) t e)) 13 (upd (gA τ 13) t 0)) 14 (upd (gA τ 14) t (gI τ 7))) 15 (upd (gA τ 15) t (gI τ 6))) 8 (Int32.ofNat (t + 1))
theorem enter_to {n e : Int32} {τ : CS} {t : Nat} (h8 : gI τ 8 = Int32.ofNat t) (ht : t < 80) (h9 : ¬ gI τ 9 = 300) (X : CS → Prop) (hX : X (ET n e τ t)) : wp_MO_enter n e τ X := by
  refine sk h9 (sk (by rw [h8]; exact t_n80 ht) (fun s3 e3 => ?_))
  have g3 : gI s3 8 = Int32.ofNat t := by rw [e3, gI_s (by decide)]; exact h8
  have i8 : vp_in (Int32.ofNat t) 310 := t_in (by omega) (by omega)
  refine ⟨by rw [g3]; exact i8, fun s4 e4 => ?_⟩
  have g4 : gI s4 8 = Int32.ofNat t := by rw [e4]; exact g3
  refine ⟨by rw [g4]; exact i8, fun s5 e5 => ?_⟩
  have g5 : gI s5 8 = Int32.ofNat t := by rw [e5]; exact g4
  refine ⟨by rw [g5]; exact i8, fun s6 e6 => ?_⟩
  have g6 : gI s6 8 = Int32.ofNat t := by rw [e6]; exact g5
  refine ⟨by rw [g6]; exact i8, fun s7 e7 => ?_⟩
  have g7 : gI s7 8 = Int32.ofNat t := by rw [e7]; exact g6
  refine ⟨by rw [g7]; exact i8, fun s8 e8 s9 e9 => ?_⟩
  have g8 : gI s8 8 = Int32.ofNat t := by rw [e8]; exact g7
  rw [g8, t_add (by omega)] at e9
  rw [g3, t_nat (by omega)] at e4
  rw [g4, t_nat (by omega)] at e5
  rw [g5, t_nat (by omega)] at e6
  rw [g6, t_nat (by omega)] at e7
  rw [g7, t_nat (by omega)] at e8
  have : s9 = ET n e τ t := by
    subst e9 e8 e7 e6 e5 e4 e3
    rfl
  rw [this]
  exact hX
def DT (v : UInt64) (τ : CS) (t : Nat) : CS := sI (sI (sX (sI τ 8 (Int32.ofNat t)) 0 v) 7 (gA τ 14 t)) 6 (gA τ 15 t)
theorem end_to {v : UInt64} {τ : CS} {t : Nat} (h8 : gI τ 8 = Int32.ofNat (t + 1)) (ht : t < 300) (X : CS → Prop) (hX : X (DT v τ t)) : wp_MO_end v τ X := by
  intro s1 e1 s2 e2
  rw [h8, t_sub (by omega)] at e1
  have g2 : gI s2 8 = Int32.ofNat t := by rw [e2, gI_sX, e1]; exact gI_sI
  refine ⟨by rw [g2]; exact t_in (by omega) (by omega), fun s3 e3 => ?_⟩
  have g3 : gI s3 8 = Int32.ofNat t := by rw [e3, gI_s (by decide)]; exact g2
  refine ⟨by rw [g3]; exact t_in (by omega) (by omega), fun s4 e4 => ?_⟩
  rw [g2, t_nat (by omega)] at e3
  rw [g3, t_nat (by omega)] at e4
  have : s4 = DT v τ t := by
    subst e4 e3 e2 e1
    rfl
  rw [this]
  exact hX
theorem Lk.cl {σ s τ τ' : CS} (h : Lk σ τ) (a0 : gA τ' 0 = gA τ 0 ∧ gA τ' 1 = gA τ 1 ∧ gA τ' 2 = gA τ 2 ∧ gA τ' 3 = gA τ 3 ∧ gA τ' 4 = gA τ 4 ∧ gA τ' 5 = gA τ 5 ∧ gA τ' 6 = gA τ 6) (b0 : gA s 0 = gA σ 0 ∧ gA s 1 = gA σ 1 ∧ gA s 2 = gA σ 2 ∧ gA s 3 = gA σ 3 ∧ gA s 4 = gA σ 4 ∧ gA s 5 = gA σ 5 ∧ gA s 6 = gA σ 6)
    (i0 : ∀ j, j ≤ 4 → gI τ' j = gI τ j) (k0 : ∀ j, 8 ≤ j → j ≤ 12 → gI s j = gI σ j) (d0 : gD τ' 0 = gD s 0) (d1 : gD τ' 1 = gD s 1) : Lk s τ' := by
  obtain ⟨⟨h0, h1, h2, h3, h4, h5, h6⟩, ⟨i0', i1, i2, i3, i4⟩, -, -⟩ := h
  obtain ⟨a0, a1, a2, a3, a4, a5, a6⟩ := a0
  obtain ⟨b0, b1, b2, b3, b4, b5, b6⟩ := b0
  refine ⟨⟨?_, ?_, ?_, ?_, ?_, ?_, ?_⟩, ⟨?_, ?_, ?_, ?_, ?_⟩, d0, d1⟩
  · rw [a0, b0, h0]
  · rw [a1, b1, h1]
  · rw [a2, b2, h2]
  · rw [a3, b3, h3]
  · rw [a4, b4, h4]
  · rw [a5, b5, h5]
  · rw [a6, b6, h6]
  · rw [i0 0 (by omega), k0 8 (by omega) (by omega), i0']
  · rw [i0 1 (by omega), k0 9 (by omega) (by omega), i1]
  · rw [i0 2 (by omega), k0 10 (by omega) (by omega), i2]
  · rw [i0 3 (by omega), k0 11 (by omega) (by omega), i3]
  · rw [i0 4 (by omega), k0 12 (by omega) (by omega), i4]
theorem Lk.ci {σ τ : CS} {k : Nat} {v : Int32} (h : Lk σ τ) (hk : k < 8) : Lk (sI σ k v) τ :=
  h.cl ⟨rfl, rfl, rfl, rfl, rfl, rfl, rfl⟩ ⟨rfl, rfl, rfl, rfl, rfl, rfl, rfl⟩ (fun _ _ => rfl) (fun j h1 _ => gI_s (by omega)) h.2.2.1 h.2.2.2
theorem Lk.ri {σ τ : CS} {k : Nat} {v : Int32} (h : Lk σ τ) (hk : 5 ≤ k) : Lk σ (sI τ k v) :=
  h.cl ⟨rfl, rfl, rfl, rfl, rfl, rfl, rfl⟩ ⟨rfl, rfl, rfl, rfl, rfl, rfl, rfl⟩ (fun j h1 => gI_s (by omega)) (fun _ _ _ => rfl) h.2.2.1 h.2.2.2
theorem En.ci {σ τ : CS} {k : Nat} {v : Int32} (h : En σ τ) (hk : k < 8) : En (sI σ k v) τ := by
  intro g hg c hc
  rw [gI_s (by omega), gI_s (by omega)]
  exact h g hg c hc
theorem En.ri {σ τ : CS} {k : Nat} {v : Int32} (h : En σ τ) : En σ (sI τ k v) := h
theorem En.rx {σ τ : CS} {k : Nat} {v : UInt64} (h : En σ τ) : En σ (sX τ k v) := h
theorem Lk.rx {σ τ : CS} {k : Nat} {v : UInt64} (h : Lk σ τ) : Lk σ (sX τ k v) := h
theorem Lk.ca {σ τ : CS} {v : Nat → Int32} (h : Lk σ τ) : Lk (sA σ 7 v) τ :=
  h.cl ⟨rfl, rfl, rfl, rfl, rfl, rfl, rfl⟩ ⟨gA_s (by decide), gA_s (by decide), gA_s (by decide), gA_s (by decide), gA_s (by decide), gA_s (by decide), gA_s (by decide)⟩ (fun _ _ => rfl) (fun _ _ _ => rfl) h.2.2.1 h.2.2.2
theorem En.ca {σ τ : CS} {v : Nat → Int32} (h : En σ τ) : En (sA σ 7 v) τ := by
  intro g hg c hc
  rw [gA_s (by omega)]
  exact h g hg c hc
theorem Lk.ra {σ τ : CS} {k : Nat} {v : Nat → Int32} (h : Lk σ τ) (hk : 7 ≤ k) : Lk σ (sA τ k v) :=
  h.cl ⟨gA_s (by omega), gA_s (by omega), gA_s (by omega), gA_s (by omega), gA_s (by omega), gA_s (by omega), gA_s (by omega)⟩ ⟨rfl, rfl, rfl, rfl, rfl, rfl, rfl⟩ (fun _ _ => rfl) (fun _ _ _ => rfl) h.2.2.1 h.2.2.2
theorem En.ra {σ τ : CS} {k : Nat} {v : Nat → Int32} (h : En σ τ) (hk : 11 ≤ k) : En σ (sA τ k v) := by
  intro g hg c hc
  rw [gA_s (by omega), gA_s (by omega), gA_s (by omega), gA_s (by omega)]
  exact h g hg c hc
theorem Lb.fr {σ s τ τ' : CS} {t : Nat} (h : Lb σ τ t) (e7 : gA s 7 = gA σ 7) (ga0 : gA τ' 0 = gA τ 0) (ga1 : gA τ' 1 = gA τ 1) (gf : ∀ f, f < t → gA τ' 11 f = gA τ 11 f) : Lb s τ' t := by
  have := h.sm ga0 ga1 gf
  intro a ha
  rw [e7]
  exact this a ha
theorem Lb.up {σ τ : CS} {t : Nat} (h : Lb σ τ t) (hn : gA τ 0 (gA τ 11 t).toNatClampNeg ≠ 17) : Lb σ τ (t + 1) := by
  intro a ha
  obtain ⟨c, h1, h2, h3⟩ := h a ha
  refine ⟨c, by omega, h2, h3.trans ⟨fun g f hf => ?_, fun g f hf => g f (by omega)⟩⟩
  by_cases e : f = t
  · subst e
    exact fun m => hn m.1
  · exact g f (by omega)
theorem Rb.up {σ τ : CS} {t : Nat} {n : Int32} (h : Rb σ τ t) (hf : gA τ 11 t = n) (hn : vp_in n 48) (hk : gA σ 0 n.toNatClampNeg ≠ 17) : Rb σ τ (t + 1) := by
  obtain ⟨h1, h2, h3, h4, h5, h6⟩ := h
  refine ⟨h1, h2, h3, h4, h5.up (by rw [hf, h1.1.1]; exact hk), fun f hg => ?_⟩
  by_cases e : f = t
  · rw [e, hf]; exact hn
  · exact h6 f (by omega)
theorem done_of {s τ : CS} {t : Nat} (h : Rb s τ t) (d : Fdn s τ t) (v : UInt64) : Rl s (DT v τ t) t ∧ gX (DT v τ t) 0 = v ∧ Kp τ (DT v τ t) t := by
  obtain ⟨h1, h2, h3, h4, h5, h6⟩ := h
  obtain ⟨d1, d2, d3⟩ := d
  refine ⟨⟨⟨((h1.ri (by decide)).ri (by decide)).ri (by decide), h2, ?_, ?_, h5, h6⟩, ?_, ?_, ?_⟩, gX_sX, Kp.rf _ _⟩
  · show gI (DT v τ t) 9 = _
    unfold DT
    rw [gI_s (by decide), gI_s (by decide), gI_sX, gI_s (by decide)]; exact h3
  · show gI (DT v τ t) 10 = _
    unfold DT
    rw [gI_s (by decide), gI_s (by decide), gI_sX, gI_s (by decide)]; exact h4
  · unfold DT
    rw [gI_s (by decide), gI_s (by decide), gI_sX, gI_sI]
  · unfold DT
    rw [gI_sI]; exact d3
  · unfold DT
    rw [gI_s (by decide), gI_sI]; exact d2
theorem come_of {σ τ : CS} {t : Nat} (n e : Int32) (h : Rl σ τ t) : Rb (sI σ 0 (gI σ 0 + 1)) (ET n e τ t) t ∧ Fdn (sI σ 0 (gI σ 0 + 1)) (ET n e τ t) t ∧ gI (ET n e τ t) 6 = gI σ 5 ∧ gI (ET n e τ t) 7 = gI σ 6 ∧ Kp τ (ET n e τ t) t ∧ gA (ET n e τ t) 11 t = n ∧ gA (ET n e τ t) 12 t = e ∧ gA (ET n e τ t) 13 t = 0 := by
  obtain ⟨⟨h1, h2, h3, h4, h5, h6⟩, h7, h8, h9⟩ := h
  have a : ∀ j, j ≠ 11 → j ≠ 12 → j ≠ 13 → j ≠ 14 → j ≠ 15 → gA (ET n e τ t) j = gA τ j := fun j a1 a2 a3 a4 a5 => by
    unfold ET
    rw [gA_sI, gA_s a5, gA_s a4, gA_s a3, gA_s a2, gA_s a1, gA_sI]
  have i : ∀ j, j ≠ 8 → j ≠ 9 → gI (ET n e τ t) j = gI τ j := fun j a1 a2 => by
    unfold ET
    rw [gI_s a1, gI_sA, gI_sA, gI_sA, gI_sA, gI_sA, gI_s a2]
  have a11 : gA (ET n e τ t) 11 = upd (gA τ 11) t n := by
    unfold ET
    rw [gA_sI, gA_s (by decide), gA_s (by decide), gA_s (by decide), gA_s (by decide), gA_sA]
  have a12 : gA (ET n e τ t) 12 = upd (gA τ 12) t e := by
    unfold ET
    rw [gA_sI, gA_s (by decide), gA_s (by decide), gA_s (by decide), gA_sA]
  have a13 : gA (ET n e τ t) 13 = upd (gA τ 13) t 0 := by
    unfold ET
    rw [gA_sI, gA_s (by decide), gA_s (by decide), gA_sA]
  have a14 : gA (ET n e τ t) 14 = upd (gA τ 14) t (gI τ 7) := by
    unfold ET
    rw [gA_sI, gA_s (by decide), gA_sA]
  have a15 : gA (ET n e τ t) 15 = upd (gA τ 15) t (gI τ 6) := by
    unfold ET
    rw [gA_sI, gA_sA]
  have kp : Kp τ (ET n e τ t) t := by
    refine ⟨fun j j1 j2 f hf => ?_, fun j _ _ f hf => rfl⟩
    have ne : f ≠ t := by omega
    by_cases c11 : j = 11
    · rw [c11, a11, upd_ne ne]
    by_cases c12 : j = 12
    · rw [c12, a12, upd_ne ne]
    by_cases c13 : j = 13
    · rw [c13, a13, upd_ne ne]
    by_cases c14 : j = 14
    · rw [c14, a14, upd_ne ne]
    by_cases c15 : j = 15
    · rw [c15, a15, upd_ne ne]
    rw [a j c11 c12 c13 c14 c15]
  have lk : Lk (sI σ 0 (gI σ 0 + 1)) (ET n e τ t) := (h1.ci (by decide)).cl ⟨a 0 (by decide) (by decide) (by decide) (by decide) (by decide), a 1 (by decide) (by decide) (by decide) (by decide) (by decide), a 2 (by decide) (by decide) (by decide) (by decide) (by decide), a 3 (by decide) (by decide) (by decide) (by decide) (by decide), a 4 (by decide) (by decide) (by decide) (by decide) (by decide), a 5 (by decide) (by decide) (by decide) (by decide) (by decide), a 6 (by decide) (by decide) (by decide) (by decide) (by decide)⟩ ⟨rfl, rfl, rfl, rfl, rfl, rfl, rfl⟩ (fun j hj => i j (by omega) (by omega)) (fun _ _ _ => rfl) h1.2.2.1 h1.2.2.2
  refine ⟨⟨lk, ?_, ?_, ?_, ?_, ?_⟩, ⟨?_, ?_, ?_⟩, ?_, ?_, kp, ?_, ?_, ?_⟩
  · intro g hg c hc
    rw [a 9 (by decide) (by decide) (by decide) (by decide) (by decide), a 10 (by decide) (by decide) (by decide) (by decide) (by decide), a 7 (by decide) (by decide) (by decide) (by decide) (by decide), a 8 (by decide) (by decide) (by decide) (by decide) (by decide)]
    exact h2.ci (k := 0) (by decide) g hg c hc
  · rw [gI_sI]
    unfold ET
    rw [gI_s (by decide), gI_sA, gI_sA, gI_sA, gI_sA, gI_sA, gI_sI, h3]
  · rw [i 10 (by decide) (by decide)]; exact h4
  · exact h5.fr rfl (a 0 (by decide) (by decide) (by decide) (by decide) (by decide)) (a 1 (by decide) (by decide) (by decide) (by decide) (by decide)) (fun f hf => kp.1 11 (by omega) (by omega) f hf)
  · intro f hf
    rw [kp.1 11 (by omega) (by omega) f hf]; exact h6 f hf
  · unfold ET
    rw [gI_sI]
  · rw [a14, upd_self, gI_s (by decide)]; exact h9
  · rw [a15, upd_self, gI_s (by decide)]; exact h8
  · rw [i 6 (by decide) (by decide)]; exact h8
  · rw [i 7 (by decide) (by decide)]; exact h9
  · rw [a11, upd_self]
  · rw [a12, upd_self]
  · rw [a13, upd_self]
def Wi (x : UInt64) : Prop := ¬ Op.cmpValue (FP.dcmp x 13965043853221167104) .l < 0 ∧ ¬ 0 < Op.cmpValue (FP.dcmp x 4741671816366391296) .g
def nodeOK (σ : CS) (k : Nat) : Prop :=
  (gA σ 0 k = 1 → vp_in (gA σ 1 k) 8) ∧ (gA σ 0 k = 10 → vp_in (gA σ 1 k) 2) ∧ (gA σ 0 k = 11 → vp_in (gA σ 1 k) 2) ∧
  (gA σ 0 k = 12 → vp_in (gA σ 1 k) 4 ∧ (gA σ 2 k = -1 ∨ vp_in (gA σ 2 k) 48) ∧ (gA σ 3 k = -1 ∨ vp_in (gA σ 3 k) 48)) ∧
  (gA σ 0 k = 16 → vp_in (gA σ 1 k) 4) ∧ (gA σ 0 k = 17 → vp_in (gA σ 1 k) 4 ∧ vp_in (gA σ 2 k) 48) ∧ (gA σ 0 k = 9 → vp_in (gA σ 3 k) 48) ∧
  (gA σ 0 k ≠ 0 → gA σ 0 k ≠ 1 → gA σ 0 k ≠ 10 → gA σ 0 k ≠ 11 → gA σ 0 k ≠ 12 → gA σ 0 k ≠ 16 → gA σ 0 k ≠ 17 → vp_in (gA σ 1 k) 48 ∧ vp_in (gA σ 2 k) 48) ∧ vp_in (gA σ 0 k) 18
def PW (σ : CS) : Prop := (∀ n, vp_in n 48 → nodeOK σ n.toNatClampNeg) ∧ (∀ p, p < 4 → (gA σ 4 p = -1 ∨ vp_in (gA σ 4 p) 48) ∧ (gA σ 5 p).toInt ≤ 2)
def hv (σ : CS) (h : Nat) : Prop := h = 8 ∨ (h < 8 ∧ gC σ h ≠ none)
def EI (σ : CS) : Prop := gC σ 8 = none ∧ (∀ h, h < 8 → ∀ c, gC σ h = some c → hv σ c ∧ ∀ a, vp_in a 2 → ¬ gI σ (20 + h) ≤ a → vp_in (gA σ (10 + h) a.toNatClampNeg) 48) ∧
  (∀ j, Wi (gD σ 0 j)) ∧ (∀ j, Wi (gD σ 1 j)) ∧ (∀ h, h < 8 → ∀ j, Wi (gD σ (10 + h) j) ∧ Wi (gD σ (20 + h) j)) ∧
  ((gI σ 9).toInt + 4 ≥ (gI σ 10).toInt ∧ (gI σ 11).toInt + 4 ≥ (gI σ 12).toInt ∧ -9 ≤ (gI σ 9).toInt ∧ (gI σ 10).toInt ≤ 9 ∧ -9 ≤ (gI σ 11).toInt ∧ (gI σ 12).toInt ≤ 9)
def OC (σ : CS) : Prop := 0 ≤ (gI σ 5).toInt ∧ (gI σ 5).toInt ≤ (gI σ 6).toInt ∧ (gI σ 6).toInt ≤ 8
def Wk (σ : CS) : Prop := 0 ≤ (gI σ 0).toInt ∧ (gI σ 0).toInt ≤ 300
def In (σ : CS) : Prop := PW σ ∧ EI σ ∧ OC σ ∧ Wk σ
def Pg (σ s : CS) : Prop := gA s 0 = gA σ 0 ∧ gA s 1 = gA σ 1 ∧ gA s 2 = gA σ 2 ∧ gA s 3 = gA σ 3 ∧ gA s 4 = gA σ 4 ∧ gA s 5 = gA σ 5 ∧ gA s 6 = gA σ 6 ∧ gI s 8 = gI σ 8
def Fr (σ s : CS) : Prop := Pg σ s ∧ gI s 5 = gI σ 5 ∧ gI s 6 = gI σ 6 ∧ gA s 7 = gA σ 7 ∧ (∀ h, gC σ h ≠ none → gC s h ≠ none) ∧ EI s ∧ Wk s ∧ (gI σ 0).toInt ≤ (gI s 0).toInt
theorem Pg.rf (σ : CS) : Pg σ σ := ⟨rfl, rfl, rfl, rfl, rfl, rfl, rfl, rfl⟩
theorem Pg.tr {a b c : CS} (h : Pg a b) (g : Pg b c) : Pg a c := by
  obtain ⟨h0, h1, h2, h3, h4, h5, h6, h7⟩ := h
  obtain ⟨g0, g1, g2, g3, g4, g5, g6, g7⟩ := g
  exact ⟨g0.trans h0, g1.trans h1, g2.trans h2, g3.trans h3, g4.trans h4, g5.trans h5, g6.trans h6, g7.trans h7⟩
theorem Pg.pw {a b : CS} (h : Pg a b) (g : PW a) : PW b := by
  obtain ⟨h0, h1, h2, h3, h4, h5, h6, h7⟩ := h
  refine ⟨fun n hh => ?_, fun p hp => ?_⟩
  · have := g.1 n hh
    unfold nodeOK at this ⊢
    simp only [h0, h1, h2, h3]
    exact this
  · rw [h4, h5]
    exact g.2 p hp
theorem Fr.tr {a b c : CS} (h : Fr a b) (g : Fr b c) : Fr a c := ⟨h.1.tr g.1, g.2.1.trans h.2.1, g.2.2.1.trans h.2.2.1, g.2.2.2.1.trans h.2.2.2.1, fun x hx => g.2.2.2.2.1 x (h.2.2.2.2.1 x hx), g.2.2.2.2.2.1, g.2.2.2.2.2.2.1, Int.le_trans h.2.2.2.2.2.2.2 g.2.2.2.2.2.2.2⟩
theorem Fr.oc {a b : CS} (h : Fr a b) (g : OC a) : OC b := by
  obtain ⟨-, h1, h2, -⟩ := h
  obtain ⟨g1, g2, g3⟩ := g
  refine ⟨?_, ?_, ?_⟩ <;> simp only [h1, h2] <;> assumption
theorem Fr.inv {a b : CS} (h : Fr a b) (g : In a) : In b := ⟨h.1.pw g.1, h.2.2.2.2.2.1, h.oc g.2.2.1, h.2.2.2.2.2.2.1⟩
theorem Fr.vh {a b : CS} (h : Fr a b) {x : Nat} (g : hv a x) : hv b x := g.imp id (fun y => ⟨y.1, h.2.2.2.2.1 x y.2⟩)
theorem Fr.rf {σ : CS} (h : In σ) : Fr σ σ := ⟨Pg.rf _, rfl, rfl, rfl, fun _ h => h, h.2.1, h.2.2.2, Int.le_refl _⟩
theorem hv9 {σ : CS} {h : Nat} (g : hv σ h) : h < 9 := by
  rcases g with g | g <;> omega
def JS (a : Int32) (t : Nat) (s τ' : CS) : Prop := Lk s τ' ∧ En s τ' ∧ gI τ' 9 = gI s 0 ∧ gI τ' 10 = 0 ∧ ∃ u, t ≤ u ∧ u < 80 ∧ gI τ' 8 = Int32.ofNat (u + 1) ∧ vp_in (gA τ' 11 u) 48 ∧ gA τ' 0 (gA τ' 11 u).toNatClampNeg = 16 ∧ gA τ' 1 (gA τ' 11 u).toNatClampNeg = a ∧
  ∀ f, t ≤ f → f ≤ u → vp_in (gA τ' 11 f) 48 ∧ ¬ Mt τ' a f
def Out (w : Int) (σ : CS) (t : Nat) (τ : CS) (r : UInt64) (s τ' : CS) : Prop :=
  (gI s 1 = 0 ∧ gI s 7 = -1 ∧ w ≤ (gI s 0).toInt ∧ Rl s τ' t ∧ gX τ' 0 = r ∧ Kp τ τ' t) ∨
  (gI s 1 ≠ 0 ∧ gI s 7 = -1 ∧ gI τ' 10 ≠ 0 ∧ Lk s τ' ∧ En s τ') ∨
  (gI s 1 = 0 ∧ ∃ a, gI s 7 = a ∧ vp_in a 4 ∧ gA σ 7 a.toNatClampNeg ≠ 0 ∧ Kp τ τ' t ∧ JS a t s τ')
def Cm (σ : CS) : Prop := gI σ 1 = 0 ∧ gI σ 7 = -1
def VS (V : VT) (d : Nat) : Prop := ∀ (n : Int32) (h : Nat) (dp : Int32) (σ τ : CS) (t : Nat) (Q : UInt64 → CS → Prop), vp_in n 48 → hv σ h → dp = Int32.ofNat (t + 1) → (t ≤ 80 ∧ t + d = 81) → In σ → Cm σ → Rl σ τ t → (∀ r s τ', Wi r → Fr σ s → Ent n (en h) τ τ' → Out ((gI σ 0).toInt + 1) σ t τ r s τ' → Q r s) → V n h dp σ Q
theorem leave_of {s : CS} {X : Int32 → CS → Prop} (h0 : gI s 1 = 0 → gI s 7 = -1 → X 0 s) (h1 : (gI s 1 ≠ 0 ∨ gI s 7 ≠ -1) → X 1 s) : wp_WK_leaving s X :=
  ⟨fun a => ⟨fun b => h0 a b, fun b => h1 (Or.inr b)⟩, fun a => h1 (Or.inl a)⟩
theorem vp4_ne {a : Int32} (h : vp_in a 4) : a ≠ -1 := by
  intro e
  subst e
  exact h (Or.inl (by decide))
theorem out_leave {w w' : Int} {σ σ1 : CS} {t : Nat} {τ τ1 : CS} {r r' : UInt64} {s τ' : CS} {n : Int32} (h : Out w σ1 (t + 1) τ1 r s τ') (hl : gI s 1 ≠ 0 ∨ gI s 7 ≠ -1) (e7 : gA σ1 7 = gA σ 7) (k : Kp τ τ1 t) (hf : gA τ1 11 t = n) (hn : vp_in n 48) (hk : ∀ a, gI s 7 = a → ¬ (gA s 0 n.toNatClampNeg = 17 ∧ gA s 1 n.toNatClampNeg = a)) : Out w' σ t τ r' s τ' := by
  rcases h with ⟨h1, h2, -⟩ | h | ⟨h1, a, h2, h3, h4, h5, j1, j2, j3, j4, u, j5, j6, j7, j8, j9, j10, j11⟩
  · rcases hl with hl | hl
    · exact absurd h1 hl
    · exact absurd h2 hl
  · exact Or.inr (Or.inl h)
  · refine Or.inr (Or.inr ⟨h1, a, h2, h3, by rw [← e7]; exact h4, k.tr (h5.lo (by omega)), j1, j2, j3, j4, u, by omega, j6, j7, j8, j9, j10, fun f f1 f2 => ?_⟩)
    by_cases e : f = t
    · subst e
      have := h5.1 11 (by omega) (by omega) f (by omega)
      rw [hf] at this
      unfold Mt
      rw [this, j1.1.1, j1.1.2.1]
      exact ⟨hn, hk a h2⟩
    · exact j11 f (by omega) f2
theorem wi0 : Wi FP.dconst0 := ⟨by decide +kernel, by decide +kernel⟩
theorem wi1 : Wi FP.dconst1 := ⟨by decide +kernel, by decide +kernel⟩
theorem EI_sI {σ : CS} {k : Nat} {v : Int32} (hk : k < 8) (he : EI σ) : EI (sI σ k v) := by
  have g : ∀ j, 8 ≤ j → gI (sI σ k v) j = gI σ j := fun j hj => gI_s (by omega)
  obtain ⟨h0, h1, h2, h3, h4, h5⟩ := he
  refine ⟨h0, fun h h9 c hc => ⟨(h1 h h9 c hc).1, fun a ha hl => ?_⟩, h2, h3, h4, ?_⟩
  · rw [g (20 + h) (by omega)] at hl
    exact (h1 h h9 c hc).2 a ha hl
  · rw [g 9 (by omega), g 10 (by omega), g 11 (by omega), g 12 (by omega)]
    exact h5
theorem Pg_sI {σ : CS} {k : Nat} {v : Int32} (hk : k < 8) : Pg σ (sI σ k v) := ⟨rfl, rfl, rfl, rfl, rfl, rfl, rfl, gI_s (by omega)⟩
theorem Fr_sI {σ : CS} {k : Nat} {v : Int32} (hk : k < 8) (h0 : k ≠ 0) (h5 : k ≠ 5) (h6 : k ≠ 6) (he : In σ) : Fr σ (sI σ k v) := by
  refine ⟨Pg_sI hk, gI_s (Ne.symm h5), gI_s (Ne.symm h6), rfl, fun _ h => h, EI_sI hk he.2.1, ?_, ?_⟩
  · unfold Wk
    rw [gI_s (Ne.symm h0)]
    exact he.2.2.2
  · rw [gI_s (Ne.symm h0)]
    exact Int.le_refl _
theorem out_fail {w : Int} {σ0 σ τ0 τ : CS} {t : Nat} {r : UInt64} {k k' : Int32} (h : Lk σ τ) (g : En σ τ) (h7 : gI σ 7 = -1) (hk : k ≠ 0) (hk' : k' ≠ 0) : Out w σ0 t τ0 r (sI σ 1 k) (sI τ 10 k') :=
  Or.inr (Or.inl ⟨by rw [gI_sI]; exact hk, by rw [gI_s (by decide)]; exact h7, by rw [gI_sI]; exact hk', (h.ci (by decide)).ri (by decide), g.ci (by decide)⟩)
def Rdy (σ τ : CS) (t : Nat) (n : Int32) (h : Nat) (d0 : Int32) : Prop := Rb σ τ t ∧ gI τ 8 = Int32.ofNat (t + 1) ∧ gA τ 14 t = d0 ∧ gA τ 15 t = gI σ 5 ∧ gI τ 6 = gI σ 5 ∧ gI τ 7 = gI σ 6 ∧ gA τ 11 t = n ∧ gA τ 12 t = en h
def Tw (τ τ2 : CS) (t : Nat) : Prop := Sm τ τ2 ∧ Kp τ τ2 t ∧ gA τ2 14 = gA τ 14 ∧ gA τ2 15 = gA τ 15
theorem Tw.rf (τ : CS) (t : Nat) : Tw τ τ t := ⟨Sm.rf _, Kp.rf _ _, rfl, rfl⟩
theorem Tw.tr {a b c : CS} {t : Nat} (h : Tw a b t) (g : Tw b c t) : Tw a c t := ⟨h.1.tr g.1, h.2.1.tr g.2.1, g.2.2.1.trans h.2.2.1, g.2.2.2.trans h.2.2.2⟩
theorem Tw_A {τ : CS} {j t : Nat} {v : Int32} (h : 13 ≤ j) (h4 : j ≠ 14) (h5 : j ≠ 15) : Tw τ (sA τ j (upd (gA τ j) t v)) t := ⟨Sm_A h, Kp_A, gA_s (Ne.symm h4), gA_s (Ne.symm h5)⟩
theorem Tw_D {τ : CS} {j t : Nat} {v : UInt64} (h : 4 ≤ j) : Tw τ (sD τ j (vf_upd (gD τ j) t v)) t := ⟨Sm_D h, Kp_D, rfl, rfl⟩
theorem Rdy.tw {σ τ τ2 : CS} {t : Nat} {n : Int32} {h : Nat} {d0 : Int32} (R : Rdy σ τ t n h d0) (g : Tw τ τ2 t) : Rdy σ τ2 t n h d0 := by
  obtain ⟨r1, r2, r3, r4, r5, r6, r7, r8⟩ := R
  obtain ⟨g1, g2, g3, g4⟩ := g
  refine ⟨r1.sm g1, (g1.2.2 8).trans r2, by rw [g3]; exact r3, by rw [g4]; exact r4, (g1.2.2 6).trans r5, (g1.2.2 7).trans r6, ?_, ?_⟩
  · rw [g1.1 11 (by omega)]; exact r7
  · rw [g1.1 12 (by omega)]; exact r8
theorem Rdy.rl {σ τ : CS} {t : Nat} {n : Int32} {h : Nat} {d0 : Int32} (R : Rdy σ τ t n h d0) (hn : vp_in n 48) (hk : gA σ 0 n.toNatClampNeg ≠ 17) : Rl σ τ (t + 1) := by
  obtain ⟨r1, r2, r3, r4, r5, r6, r7, r8⟩ := R
  exact ⟨r1.up r7 hn hk, r2, r5, r6⟩
theorem Rdy.nx {σ τ s τ' : CS} {t : Nat} {n : Int32} {h : Nat} {d0 : Int32} (R : Rdy σ τ t n h d0) (f : Fr σ s) (l : Rl s τ' (t + 1)) (k : Kp τ τ' (t + 1)) : Rdy s τ' t n h d0 := by
  obtain ⟨⟨q1, q2, q3, q4, q5, q6⟩, r2, r3, r4, r5, r6, r7, r8⟩ := R
  obtain ⟨⟨l1, l2, l3, l4, l5, l6⟩, l7, l8, l9⟩ := l
  refine ⟨⟨l1, l2, l3, l4, ?_, fun f hf => l6 f (by omega)⟩, l7, ?_, ?_, l8, l9, ?_, ?_⟩
  · refine q5.fr f.2.2.2.1 ?_ ?_ (fun g hg => k.1 11 (by omega) (by omega) g (by omega))
    · rw [l1.1.1, q1.1.1, f.1.1]
    · rw [l1.1.2.1, q1.1.2.1, f.1.2.1]
  · rw [k.1 14 (by omega) (by omega) t (by omega)]; exact r3
  · rw [k.1 15 (by omega) (by omega) t (by omega), f.2.1]; exact r4
  · rw [k.1 11 (by omega) (by omega) t (by omega)]; exact r7
  · rw [k.1 12 (by omega) (by omega) t (by omega)]; exact r8
theorem Rdy.pos {σ τ : CS} {t : Nat} {n : Int32} {h : Nat} {d0 : Int32} (R : Rdy σ τ t n h d0) (ht : t < 80) : ¬ gI τ 8 ≤ 0 := by
  rw [R.2.1]
  exact t_pos (by omega)
def HQ (σ : CS) (t : Nat) (τ : CS) (Q : UInt64 → CS → Prop) : Prop := ∀ r s τ', Wi r → Fr σ s → Gos τ τ' → Out (gI σ 0).toInt σ t τ r s τ' → Q r s
theorem Out.bs {w w' : Int} {σ s τ τ' s2 τ2 : CS} {t : Nat} {r : UInt64} (o : Out w s t τ' r s2 τ2) (e7 : gA s 7 = gA σ 7) (k : Kp τ τ' t) (hw : w' ≤ w) : Out w' σ t τ r s2 τ2 := by
  rcases o with ⟨o1, o2, o3, o4, o5, o6⟩ | o | ⟨o1, a, o2, o3, o4, o5, o6⟩
  · exact Or.inl ⟨o1, o2, by omega, o4, o5, k.tr o6⟩
  · exact Or.inr (Or.inl o)
  · exact Or.inr (Or.inr ⟨o1, a, o2, o3, by rw [← e7]; exact o4, k.tr o5, o6⟩)
theorem HQ.nx {σ τ s τ' : CS} {t : Nat} {Q : UInt64 → CS → Prop} (q : HQ σ t τ Q) (f : Fr σ s) (g : Gos τ τ') (k : Kp τ τ' t) (w : (gI σ 0).toInt ≤ (gI s 0).toInt) : HQ s t τ' Q := fun r s2 τ2 wr f2 g2 o => q r s2 τ2 wr (f.tr f2) (g.tr g2) (o.bs f.2.2.2.1 k w)
theorem HQ.fini {σ τ τ2 : CS} {t : Nat} {Q : UInt64 → CS → Prop} (q : HQ σ t τ Q) (hb : Rb σ τ2 t) (hd : Fdn σ τ2 t) (k : Kp τ τ2 t) (I : In σ) (hc : Cm σ) (ht : t < 80) {v : UInt64} (wv : Wi v) (h8 : ¬ gI τ 8 ≤ 0) (h10 : gI τ 10 = 0) (hs : ∀ X, wp_MO_end v τ2 X → wp_MO_step τ X) : Q v σ := by
  obtain ⟨d1, d2, d3⟩ := done_of hb hd v
  exact q v σ (DT v τ2 t) wv (Fr.rf I) (Gos_step h8 h10 (fun X hX => hs X (end_to hd.1 (by omega) X hX))) (Or.inl ⟨hc.1, hc.2, Int.le_refl _, d1, d2, k.tr d3⟩)
theorem HQ.fin {σ τ τ2 : CS} {t : Nat} {Q : UInt64 → CS → Prop} (q : HQ σ t τ Q) {n : Int32} {h : Nat} {d0 : Int32} (R : Rdy σ τ t n h d0) (T : Tw τ τ2 t) (e : gI σ 6 = d0) (I : In σ) (hc : Cm σ) (ht : t < 80) {v : UInt64} (wv : Wi v) (hs : ∀ X, wp_MO_end v τ2 X → wp_MO_step τ X) : Q v σ := by
  have R2 := R.tw T
  exact q.fini R2.1 ⟨R2.2.1, by rw [e]; exact R2.2.2.1, R2.2.2.2.1⟩ T.2.1 I hc ht wv (R.pos ht) R.1.2.2.2.1 hs
theorem HQ.bad {σ τ τ2 : CS} {t : Nat} {Q : UInt64 → CS → Prop} (q : HQ σ t τ Q) {n : Int32} {h : Nat} {d0 : Int32} (R : Rdy σ τ t n h d0) (T : Tw τ τ2 t) (I : In σ) (hc : Cm σ) (ht : t < 80) {k k' : Int32} (hk : k ≠ 0) (hk' : k' ≠ 0) (hs : ∀ X, wp_MO_wrong k' τ2 X → wp_MO_step τ X) {r : UInt64} (wr : Wi r) : Q r (sI σ 1 k) :=
  q r (sI σ 1 k) (sI τ2 10 k') wr (Fr_sI (by decide) (by decide) (by decide) (by decide) I) (Gos_step (R.pos ht) R.1.2.2.2.1 (fun X hX => hs X (fun s e => by rw [e]; exact hX))) (out_fail (R.1.1.sm T.1) (R.1.2.1.sm T.1) hc.2 hk hk')
theorem HQ.fail {σ τ τ2 : CS} {t : Nat} {Q : UInt64 → CS → Prop} (q : HQ σ t τ Q) {n : Int32} {h : Nat} {d0 : Int32} (R : Rdy σ τ t n h d0) (T : Tw τ τ2 t) (I : In σ) (hc : Cm σ) (ht : t < 80) {k k' : Int32} (hk : k ≠ 0) (hk' : k' ≠ 0) (hs : ∀ X, wp_MO_wrong k' τ2 X → wp_MO_step τ X) : wp_WK_fail k σ Q := fun s e => by
  rw [e]
  exact q.bad R T I hc ht hk hk' hs wi0
theorem child {V : VT} {d : Nat} (hV : VS V d) {σ τ τ2 : CS} {t : Nat} {n : Int32} {h : Nat} {d0 : Int32} {Q0 : UInt64 → CS → Prop} (q : HQ σ t τ Q0) (R : Rdy σ τ t n h d0) (hn : vp_in n 48) (hk : gA σ 0 n.toNatClampNeg ≠ 17) (hd : t + d = 80) (I : In σ) (C : Cm σ) (T : Tw τ τ2 t) {c : Int32} {h' : Nat} (hc : vp_in c 48) (hh : hv σ h') {dp : Int32} (hdp : dp = Int32.ofNat (t + 1)) (ht : t < 80) (hs : ∀ X, wp_MO_enter c (en h') τ2 X → wp_MO_step τ X) {Q : UInt64 → CS → Prop}
    (hN : ∀ r s τ', Wi r → Fr σ s → Cm s → (gI σ 0).toInt + 1 ≤ (gI s 0).toInt → HQ s t τ' Q0 → Rdy s τ' t n h d0 → Kp τ2 τ' (t + 1) → gX τ' 0 = r → Q r s)
    (hL : ∀ r s, Wi r → (gI s 1 ≠ 0 ∨ gI s 7 ≠ -1) → (∀ r', Wi r' → Q0 r' s) → Q r s) : V c h' (dp + 1) σ Q := by
  have R2 := R.tw T
  refine hV c h' (dp + 1) σ τ2 (t + 1) Q hc hh (by rw [hdp]; exact t_add (by omega)) (by omega) I C (R2.rl hn hk) (fun r s τ' wr fs en ou => ?_)
  have go : Gos τ τ' := Gos_ent (R.pos ht) R.1.2.2.2.1 hs en
  by_cases hl : gI s 1 ≠ 0 ∨ gI s 7 ≠ -1
  · refine hL r s wr hl (fun r' wr' => q r' s τ' wr' fs go (out_leave ou hl rfl T.2.1 R2.2.2.2.2.2.2.1 hn (fun a _ m => ?_)))
    rw [fs.1.1] at m
    exact hk m.1
  · have C2 : Cm s := ⟨Decidable.byContradiction (fun e => hl (Or.inl e)), Decidable.byContradiction (fun e => hl (Or.inr e))⟩
    rcases ou with ⟨-, -, o3, o4, o5, o6⟩ | o | ⟨-, a, o2, o3, -⟩
    · exact hN r s τ' wr fs C2 o3 (q.nx fs go (T.2.1.tr (o6.lo (by omega))) (by omega)) (R2.nx fs o4 o6) o6 o5
    · exact absurd C2.1 o.1
    · exact absurd (o2 ▸ C2.2) (vp4_ne o3)
theorem nl {s : CS} (C : Cm s) (h : gI s 1 ≠ 0 ∨ gI s 7 ≠ -1) {P : Prop} : P := by
  rcases h with h | h
  · exact absurd C.1 h
  · exact absurd C.2 h
theorem lv {s : CS} (h : gI s 1 ≠ 0 ∨ gI s 7 ≠ -1) (a : gI s 1 = 0) (b : gI s 7 = -1) {P : Prop} : P := nl ⟨a, b⟩ h
theorem step_ix {τ : CS} {t : Nat} (h8 : gI τ 8 = Int32.ofNat (t + 1)) (ht : t < 80) : gI τ 8 - 1 = Int32.ofNat t ∧ (Int32.ofNat t).toNatClampNeg = t ∧ vp_in (Int32.ofNat t) 310 :=
  ⟨by rw [h8]; exact t_sub (by omega), t_nat (by omega), t_in (by omega) (by omega)⟩
theorem k_ne {a : Int32} {k : Int32} (h : a = k) {j : Int32} (e : k ≠ j) : ¬ a = j := fun g => e (h ▸ g)
section STEPS
variable {τ : CS} {t : Nat} {n : Int32} {X : CS → Prop}
theorem st_9_0 (h8 : gI τ 8 = Int32.ofNat (t + 1)) (ht : t < 80) (hf : gA τ 11 t = n) (hn : vp_in n 48) (hk : gA τ 0 n.toNatClampNeg = 9) (h13 : gA τ 13 t = 0) (hX : wp_MO_enter (gA τ 1 n.toNatClampNeg) (gA τ 12 t) (sA τ 13 (upd (gA τ 13) t 1)) X) : wp_MO_step τ X := by
  obtain ⟨e1, e2, e3⟩ := step_ix h8 ht
  unfold wp_MO_step
  simp only [e1, e2, hf]
  refine ⟨e3, hn, hn, e3, sk (k_ne hk (by decide)) (sk (k_ne hk (by decide)) (tk hk ⟨e3, e3, fun s es => ?_⟩))⟩
  rw [h13] at es ⊢
  subst es
  exact sk (by decide) (sk (by decide) (tk rfl (sk (k_ne hk (by decide)) ⟨e3, hX⟩)))
theorem st_9_2 (h8 : gI τ 8 = Int32.ofNat (t + 1)) (ht : t < 80) (hf : gA τ 11 t = n) (hn : vp_in n 48) (hk : gA τ 0 n.toNatClampNeg = 9) (h13 : gA τ 13 t = 2) (hX : wp_MO_end (gX τ 0) (sA τ 13 (upd (gA τ 13) t 3)) X) : wp_MO_step τ X := by
  obtain ⟨e1, e2, e3⟩ := step_ix h8 ht
  unfold wp_MO_step
  simp only [e1, e2, hf]
  refine ⟨e3, hn, hn, e3, sk (k_ne hk (by decide)) (sk (k_ne hk (by decide)) (tk hk ⟨e3, e3, fun s es => ?_⟩))⟩
  rw [h13] at es ⊢
  subst es
  exact tk rfl hX
theorem st_14_0 (h8 : gI τ 8 = Int32.ofNat (t + 1)) (ht : t < 80) (hf : gA τ 11 t = n) (hn : vp_in n 48) (hk : gA τ 0 n.toNatClampNeg = 14) (h13 : gA τ 13 t = 0) (hX : wp_MO_enter (gA τ 1 n.toNatClampNeg) (gA τ 12 t) (sA τ 13 (upd (gA τ 13) t 1)) X) : wp_MO_step τ X := by
  obtain ⟨e1, e2, e3⟩ := step_ix h8 ht
  unfold wp_MO_step
  simp only [e1, e2, hf]
  refine ⟨e3, hn, hn, e3, sk (k_ne hk (by decide)) (sk (k_ne hk (by decide)) (sk (k_ne hk (by decide)) (sk (k_ne hk (by decide)) (sk (k_ne hk (by decide)) (sk (k_ne hk (by decide)) (sk (k_ne hk (by decide)) (tk hk ⟨e3, e3, fun s es => ?_⟩)))))))⟩
  rw [h13] at es ⊢
  subst es
  exact sk (by decide) (sk (by decide) (tk rfl (sk (k_ne hk (by decide)) ⟨e3, hX⟩)))
theorem st_14_2 (h8 : gI τ 8 = Int32.ofNat (t + 1)) (ht : t < 80) (hf : gA τ 11 t = n) (hn : vp_in n 48) (hk : gA τ 0 n.toNatClampNeg = 14) (h13 : gA τ 13 t = 2) (hX : wp_MO_end (gX τ 0) (sA τ 13 (upd (gA τ 13) t 3)) X) : wp_MO_step τ X := by
  obtain ⟨e1, e2, e3⟩ := step_ix h8 ht
  unfold wp_MO_step
  simp only [e1, e2, hf]
  refine ⟨e3, hn, hn, e3, sk (k_ne hk (by decide)) (sk (k_ne hk (by decide)) (sk (k_ne hk (by decide)) (sk (k_ne hk (by decide)) (sk (k_ne hk (by decide)) (sk (k_ne hk (by decide)) (sk (k_ne hk (by decide)) (tk hk ⟨e3, e3, fun s es => ?_⟩)))))))⟩
  rw [h13] at es ⊢
  subst es
  exact tk rfl hX
theorem st_14_1 (h8 : gI τ 8 = Int32.ofNat (t + 1)) (ht : t < 80) (hf : gA τ 11 t = n) (hn : vp_in n 48) (hk : gA τ 0 n.toNatClampNeg = 14) (h13 : gA τ 13 t = 1) (hX : wp_MO_enter (gA τ 2 n.toNatClampNeg) (gA τ 12 t) (sA τ 13 (upd (gA τ 13) t 2)) X) : wp_MO_step τ X := by
  obtain ⟨e1, e2, e3⟩ := step_ix h8 ht
  unfold wp_MO_step
  simp only [e1, e2, hf]
  refine ⟨e3, hn, hn, e3, sk (k_ne hk (by decide)) (sk (k_ne hk (by decide)) (sk (k_ne hk (by decide)) (sk (k_ne hk (by decide)) (sk (k_ne hk (by decide)) (sk (k_ne hk (by decide)) (sk (k_ne hk (by decide)) (tk hk ⟨e3, e3, fun s es => ?_⟩)))))))⟩
  rw [h13] at es ⊢
  subst es
  exact sk (by decide) (tk rfl (sk (k_ne hk (by decide)) (sk (by decide) (tk hk ⟨hn, e3, hX⟩))))
theorem st_9_1z (h8 : gI τ 8 = Int32.ofNat (t + 1)) (ht : t < 80) (hf : gA τ 11 t = n) (hn : vp_in n 48) (hk : gA τ 0 n.toNatClampNeg = 9) (h13 : gA τ 13 t = 1) (hz : Op.cmpValue (FP.dcmp (gX τ 0) FP.dconst0) .l = 0) (hX : wp_MO_enter (gA τ 3 n.toNatClampNeg) (gA τ 12 t) (sA τ 13 (upd (gA τ 13) t 2)) X) : wp_MO_step τ X := by
  obtain ⟨e1, e2, e3⟩ := step_ix h8 ht
  unfold wp_MO_step
  simp only [e1, e2, hf]
  refine ⟨e3, hn, hn, e3, sk (k_ne hk (by decide)) (sk (k_ne hk (by decide)) (tk hk ⟨e3, e3, fun s es => ?_⟩))⟩
  rw [h13] at es ⊢
  subst es
  exact sk (by decide) (tk rfl (sk (k_ne hk (by decide)) (sk (by decide) (sk (k_ne hk (by decide)) (tk hz ⟨hn, e3, hX⟩)))))
theorem st_9_1n (h8 : gI τ 8 = Int32.ofNat (t + 1)) (ht : t < 80) (hf : gA τ 11 t = n) (hn : vp_in n 48) (hk : gA τ 0 n.toNatClampNeg = 9) (h13 : gA τ 13 t = 1) (hz : ¬ Op.cmpValue (FP.dcmp (gX τ 0) FP.dconst0) .l = 0) (hX : wp_MO_enter (gA τ 2 n.toNatClampNeg) (gA τ 12 t) (sA τ 13 (upd (gA τ 13) t 2)) X) : wp_MO_step τ X := by
  obtain ⟨e1, e2, e3⟩ := step_ix h8 ht
  unfold wp_MO_step
  simp only [e1, e2, hf]
  refine ⟨e3, hn, hn, e3, sk (k_ne hk (by decide)) (sk (k_ne hk (by decide)) (tk hk ⟨e3, e3, fun s es => ?_⟩))⟩
  rw [h13] at es ⊢
  subst es
  exact sk (by decide) (tk rfl (sk (k_ne hk (by decide)) (sk (by decide) (sk (k_ne hk (by decide)) (sk hz ⟨hn, e3, hX⟩)))))
theorem st_17_0 (h8 : gI τ 8 = Int32.ofNat (t + 1)) (ht : t < 80) (hf : gA τ 11 t = n) (hn : vp_in n 48) (hk : gA τ 0 n.toNatClampNeg = 17) (h13 : gA τ 13 t = 0) (hX : wp_MO_enter (gA τ 2 n.toNatClampNeg) (gA τ 12 t) (sA τ 13 (upd (gA τ 13) t 1)) X) : wp_MO_step τ X := by
  obtain ⟨e1, e2, e3⟩ := step_ix h8 ht
  unfold wp_MO_step
  simp only [e1, e2, hf]
  refine ⟨e3, hn, hn, e3, sk (k_ne hk (by decide)) (sk (k_ne hk (by decide)) (sk (k_ne hk (by decide)) (sk (k_ne hk (by decide)) (sk (k_ne hk (by decide)) (sk (k_ne hk (by decide)) (sk (k_ne hk (by decide)) (sk (k_ne hk (by decide)) (sk (k_ne hk (by decide)) (sk (k_ne hk (by decide)) (tk hk ⟨e3, e3, fun s es => ?_⟩))))))))))⟩
  rw [h13] at es ⊢
  subst es
  exact sk (by decide) (sk (by decide) (tk rfl (tk hk ⟨hn, e3, hX⟩)))
theorem st_17_1 (h8 : gI τ 8 = Int32.ofNat (t + 1)) (ht : t < 80) (hf : gA τ 11 t = n) (hn : vp_in n 48) (hk : gA τ 0 n.toNatClampNeg = 17) (h13 : gA τ 13 t = 1) (hX : wp_MO_end (gX τ 0) (sA τ 13 (upd (gA τ 13) t 2)) X) : wp_MO_step τ X := by
  obtain ⟨e1, e2, e3⟩ := step_ix h8 ht
  unfold wp_MO_step
  simp only [e1, e2, hf]
  refine ⟨e3, hn, hn, e3, sk (k_ne hk (by decide)) (sk (k_ne hk (by decide)) (sk (k_ne hk (by decide)) (sk (k_ne hk (by decide)) (sk (k_ne hk (by decide)) (sk (k_ne hk (by decide)) (sk (k_ne hk (by decide)) (sk (k_ne hk (by decide)) (sk (k_ne hk (by decide)) (sk (k_ne hk (by decide)) (tk hk ⟨e3, e3, fun s es => ?_⟩))))))))))⟩
  rw [h13] at es ⊢
  subst es
  exact sk (by decide) (tk rfl (tk hk hX))
theorem st_0 (h8 : gI τ 8 = Int32.ofNat (t + 1)) (ht : t < 80) (hf : gA τ 11 t = n) (hn : vp_in n 48) (hk : gA τ 0 n.toNatClampNeg = 0) (hv : vf_n64 (FP.ddiv (FP.i2d (gA τ 1 n.toNatClampNeg)) 4620693217682128896)) (hX : wp_MO_end (FP.ddiv (FP.i2d (gA τ 1 n.toNatClampNeg)) 4620693217682128896) τ X) : wp_MO_step τ X := by
  obtain ⟨e1, e2, e3⟩ := step_ix h8 ht
  unfold wp_MO_step
  simp only [e1, e2, hf]
  refine ⟨e3, hn, hn, e3, tk hk ⟨hv, hX⟩⟩
theorem st_1 (h8 : gI τ 8 = Int32.ofNat (t + 1)) (ht : t < 80) (hf : gA τ 11 t = n) (hn : vp_in n 48) (hk : gA τ 0 n.toNatClampNeg = 1) (hv : vp_in (gA τ 1 n.toNatClampNeg) 8) (hX : wp_MO_end (gD τ 0 (gA τ 1 n.toNatClampNeg).toNatClampNeg) τ X) : wp_MO_step τ X := by
  obtain ⟨e1, e2, e3⟩ := step_ix h8 ht
  unfold wp_MO_step
  simp only [e1, e2, hf]
  refine ⟨e3, hn, hn, e3, sk (k_ne hk (by decide)) (tk hk ⟨hv, hX⟩)⟩
theorem st_10 (h8 : gI τ 8 = Int32.ofNat (t + 1)) (ht : t < 80) (hf : gA τ 11 t = n) (hn : vp_in n 48) (hk : gA τ 0 n.toNatClampNeg = 10)  (hX : wp_MO_parameter (Int32.ofNat t) (gA τ 1 n.toNatClampNeg) τ X) : wp_MO_step τ X := by
  obtain ⟨e1, e2, e3⟩ := step_ix h8 ht
  unfold wp_MO_step
  simp only [e1, e2, hf]
  refine ⟨e3, hn, hn, e3, sk (k_ne hk (by decide)) (sk (k_ne hk (by decide)) (sk (k_ne hk (by decide)) (tk hk hX)))⟩
theorem st_11z (h8 : gI τ 8 = Int32.ofNat (t + 1)) (ht : t < 80) (hf : gA τ 11 t = n) (hn : vp_in n 48) (hk : gA τ 0 n.toNatClampNeg = 11) (hz : gA τ 12 t = 0) (hX : wp_MO_wrong 4 τ X) : wp_MO_step τ X := by
  obtain ⟨e1, e2, e3⟩ := step_ix h8 ht
  unfold wp_MO_step
  simp only [e1, e2, hf]
  refine ⟨e3, hn, hn, e3, sk (k_ne hk (by decide)) (sk (k_ne hk (by decide)) (sk (k_ne hk (by decide)) (sk (k_ne hk (by decide)) (tk hk ⟨e3, tk hz hX⟩))))⟩
theorem st_11n (h8 : gI τ 8 = Int32.ofNat (t + 1)) (ht : t < 80) (hf : gA τ 11 t = n) (hn : vp_in n 48) (hk : gA τ 0 n.toNatClampNeg = 11) (hz : ¬ gA τ 12 t = 0) (hv : vp_in ((2 * (gA τ 12 t)) + (gA τ 1 n.toNatClampNeg)) 20) (hX : wp_MO_end (gD τ 3 ((2 * (gA τ 12 t)) + (gA τ 1 n.toNatClampNeg)).toNatClampNeg) τ X) : wp_MO_step τ X := by
  obtain ⟨e1, e2, e3⟩ := step_ix h8 ht
  unfold wp_MO_step
  simp only [e1, e2, hf]
  refine ⟨e3, hn, hn, e3, sk (k_ne hk (by decide)) (sk (k_ne hk (by decide)) (sk (k_ne hk (by decide)) (sk (k_ne hk (by decide)) (tk hk ⟨e3, sk hz ⟨e3, hv, hX⟩⟩))))⟩
theorem st_12 (h8 : gI τ 8 = Int32.ofNat (t + 1)) (ht : t < 80) (hf : gA τ 11 t = n) (hn : vp_in n 48) (hk : gA τ 0 n.toNatClampNeg = 12)  (hX : wp_MO_call (Int32.ofNat t) n τ X) : wp_MO_step τ X := by
  obtain ⟨e1, e2, e3⟩ := step_ix h8 ht
  unfold wp_MO_step
  simp only [e1, e2, hf]
  refine ⟨e3, hn, hn, e3, sk (k_ne hk (by decide)) (sk (k_ne hk (by decide)) (sk (k_ne hk (by decide)) (sk (k_ne hk (by decide)) (sk (k_ne hk (by decide)) (tk hk hX)))))⟩
theorem st_13 (h8 : gI τ 8 = Int32.ofNat (t + 1)) (ht : t < 80) (hf : gA τ 11 t = n) (hn : vp_in n 48) (hk : gA τ 0 n.toNatClampNeg = 13)  (hX : wp_MO_set (Int32.ofNat t) n τ X) : wp_MO_step τ X := by
  obtain ⟨e1, e2, e3⟩ := step_ix h8 ht
  unfold wp_MO_step
  simp only [e1, e2, hf]
  refine ⟨e3, hn, hn, e3, sk (k_ne hk (by decide)) (sk (k_ne hk (by decide)) (sk (k_ne hk (by decide)) (sk (k_ne hk (by decide)) (sk (k_ne hk (by decide)) (sk (k_ne hk (by decide)) (tk hk hX))))))⟩
theorem st_15 (h8 : gI τ 8 = Int32.ofNat (t + 1)) (ht : t < 80) (hf : gA τ 11 t = n) (hn : vp_in n 48) (hk : gA τ 0 n.toNatClampNeg = 15)  (hX : wp_MO_repeat (Int32.ofNat t) n τ X) : wp_MO_step τ X := by
  obtain ⟨e1, e2, e3⟩ := step_ix h8 ht
  unfold wp_MO_step
  simp only [e1, e2, hf]
  refine ⟨e3, hn, hn, e3, sk (k_ne hk (by decide)) (sk (k_ne hk (by decide)) (sk (k_ne hk (by decide)) (sk (k_ne hk (by decide)) (sk (k_ne hk (by decide)) (sk (k_ne hk (by decide)) (sk (k_ne hk (by decide)) (sk (k_ne hk (by decide)) (tk hk hX))))))))⟩
theorem st_16 (h8 : gI τ 8 = Int32.ofNat (t + 1)) (ht : t < 80) (hf : gA τ 11 t = n) (hn : vp_in n 48) (hk : gA τ 0 n.toNatClampNeg = 16)  (hX : wp_MO_jump (gA τ 1 n.toNatClampNeg) τ X) : wp_MO_step τ X := by
  obtain ⟨e1, e2, e3⟩ := step_ix h8 ht
  unfold wp_MO_step
  simp only [e1, e2, hf]
  refine ⟨e3, hn, hn, e3, sk (k_ne hk (by decide)) (sk (k_ne hk (by decide)) (sk (k_ne hk (by decide)) (sk (k_ne hk (by decide)) (sk (k_ne hk (by decide)) (sk (k_ne hk (by decide)) (sk (k_ne hk (by decide)) (sk (k_ne hk (by decide)) (sk (k_ne hk (by decide)) (tk hk hX)))))))))⟩
theorem st_pair (h8 : gI τ 8 = Int32.ofNat (t + 1)) (ht : t < 80) (hf : gA τ 11 t = n) (hn : vp_in n 48) (k0 : ¬ gA τ 0 n.toNatClampNeg = 0) (k1 : ¬ gA τ 0 n.toNatClampNeg = 1) (k9 : ¬ gA τ 0 n.toNatClampNeg = 9) (k10 : ¬ gA τ 0 n.toNatClampNeg = 10) (k11 : ¬ gA τ 0 n.toNatClampNeg = 11) (k12 : ¬ gA τ 0 n.toNatClampNeg = 12) (k13 : ¬ gA τ 0 n.toNatClampNeg = 13) (k14 : ¬ gA τ 0 n.toNatClampNeg = 14) (k15 : ¬ gA τ 0 n.toNatClampNeg = 15) (k16 : ¬ gA τ 0 n.toNatClampNeg = 16) (k17 : ¬ gA τ 0 n.toNatClampNeg = 17) (hX : wp_MO_pair (Int32.ofNat t) n τ X) : wp_MO_step τ X := by
  obtain ⟨e1, e2, e3⟩ := step_ix h8 ht
  unfold wp_MO_step
  simp only [e1, e2, hf]
  exact ⟨e3, hn, hn, e3, sk k0 (sk k1 (sk k9 (sk k10 (sk k11 (sk k12 (sk k13 (sk k14 (sk k15 (sk k16 (sk k17 hX))))))))))⟩
theorem pr_0 (ht : t < 80) (hn : vp_in n 48) (h13 : gA τ 13 t = 0) (hX : wp_MO_enter (gA τ 1 n.toNatClampNeg) (gA τ 12 t) (sA τ 13 (upd (gA τ 13) t 1)) X) : wp_MO_pair (Int32.ofNat t) n τ X := by
  have e2 : (Int32.ofNat t).toNatClampNeg = t := t_nat (by omega)
  have e3 : vp_in (Int32.ofNat t) 310 := t_in (by omega) (by omega)
  unfold wp_MO_pair
  simp only [e2, h13]
  refine ⟨e3, e3, e3, fun s es => tk trivial ⟨hn, e3, ?_⟩⟩
  subst es
  exact hX
theorem pr_1 (ht : t < 80) (hn : vp_in n 48) (h13 : gA τ 13 t = 1) (hX : wp_MO_enter (gA τ 2 n.toNatClampNeg) (gA τ 12 t) (sD (sA τ 13 (upd (gA τ 13) t 2)) 4 (vf_upd (gD τ 4) t (gX τ 0))) X) : wp_MO_pair (Int32.ofNat t) n τ X := by
  have e2 : (Int32.ofNat t).toNatClampNeg = t := t_nat (by omega)
  have e3 : vp_in (Int32.ofNat t) 310 := t_in (by omega) (by omega)
  unfold wp_MO_pair
  simp only [e2, h13]
  refine ⟨e3, e3, e3, fun s es => sk (by decide) (tk trivial ⟨e3, fun s2 es2 => ⟨hn, e3, ?_⟩⟩)⟩
  subst es2 es
  exact hX
theorem pr_2 (ht : t < 80) (hn : vp_in n 48) (h13 : gA τ 13 t = 2) (hk : ¬ gA τ 0 n.toNatClampNeg = 2) (hX : wp_MO_sum (gA τ 0 n.toNatClampNeg) (gD τ 4 t) (gX τ 0) (sA τ 13 (upd (gA τ 13) t 3)) X) : wp_MO_pair (Int32.ofNat t) n τ X := by
  have e2 : (Int32.ofNat t).toNatClampNeg = t := t_nat (by omega)
  have e3 : vp_in (Int32.ofNat t) 310 := t_in (by omega) (by omega)
  unfold wp_MO_pair
  simp only [e2, h13]
  refine ⟨e3, e3, e3, fun s es => sk (by decide) (sk (by decide) ⟨hn, ?_⟩)⟩
  subst es
  exact sk hk ⟨hn, e3, hX⟩
theorem pr_2e (ht : t < 80) (hn : vp_in n 48) (h13 : gA τ 13 t = 2) (hk : gA τ 0 n.toNatClampNeg = 2) (hX : wp_MO_round (gD τ 4 t) (sA τ 13 (upd (gA τ 13) t 3)) (fun r5 s6 => (wp_MO_round (gX s6 0) s6 (fun r7 s8 => (wp_MO_place r5 r7 s8 (fun r9 s10 => ((0 ≤ r9 → (vp_in r9 25 ∧ (wp_MO_end (gD s10 1 r9.toNatClampNeg) s10 X))) ∧ (¬ 0 ≤ r9 → (wp_MO_wrong 3 s10 X))))))))) : wp_MO_pair (Int32.ofNat t) n τ X := by
  have e2 : (Int32.ofNat t).toNatClampNeg = t := t_nat (by omega)
  have e3 : vp_in (Int32.ofNat t) 310 := t_in (by omega) (by omega)
  unfold wp_MO_pair
  simp only [e2, h13]
  refine ⟨e3, e3, e3, fun s es => sk (by decide) (sk (by decide) ⟨hn, ?_⟩)⟩
  subst es
  exact tk hk ⟨e3, hX⟩
theorem rp_0 (ht : t < 80) (hn : vp_in n 48) (h13 : ¬ gA τ 13 t = 1) (hX : wp_MO_enter (gA τ 1 n.toNatClampNeg) (gA τ 12 t) (sA τ 13 (upd (gA τ 13) t 1)) X) : wp_MO_repeat (Int32.ofNat t) n τ X := by
  have e2 : (Int32.ofNat t).toNatClampNeg = t := t_nat (by omega)
  have e3 : vp_in (Int32.ofNat t) 310 := t_in (by omega) (by omega)
  unfold wp_MO_repeat
  simp only [e2]
  refine ⟨e3, sk h13 ⟨e3, sk h13 ⟨e3, fun s es => ?_⟩⟩⟩
  subst es
  exact ⟨e3, sk (by rw [gA_sA, upd_self]; decide) ⟨hn, e3, hX⟩⟩
theorem rp_1n (ht : t < 80) (hn : vp_in n 48) (h13 : gA τ 13 t = 1) (hz : ¬ Op.cmpValue (FP.dcmp (gX τ 0) FP.dconst0) .l = 0) (hX : wp_MO_enter (gA τ 2 n.toNatClampNeg) (gA τ 12 t) (sA τ 13 (upd (gA τ 13) t 2)) X) : wp_MO_repeat (Int32.ofNat t) n τ X := by
  have e2 : (Int32.ofNat t).toNatClampNeg = t := t_nat (by omega)
  have e3 : vp_in (Int32.ofNat t) 310 := t_in (by omega) (by omega)
  unfold wp_MO_repeat
  simp only [e2]
  refine ⟨e3, tk h13 (sk hz ⟨e3, tk h13 ⟨e3, fun s es => ?_⟩⟩)⟩
  subst es
  exact ⟨e3, tk (by rw [gA_sA, upd_self]) ⟨hn, e3, hX⟩⟩
theorem rp_1z (ht : t < 80) (h13 : gA τ 13 t = 1) (hz : Op.cmpValue (FP.dcmp (gX τ 0) FP.dconst0) .l = 0) (hX : wp_MO_end FP.dconst0 τ X) : wp_MO_repeat (Int32.ofNat t) n τ X := by
  have e2 : (Int32.ofNat t).toNatClampNeg = t := t_nat (by omega)
  have e3 : vp_in (Int32.ofNat t) 310 := t_in (by omega) (by omega)
  unfold wp_MO_repeat
  simp only [e2]
  exact ⟨e3, tk h13 (tk hz hX)⟩
end STEPS
theorem n10 {P : Prop} : (1 : Int32) = 0 → P := fun h => absurd h (by decide)
section METHODS
variable {V : VT} {d : Nat} {σ τ : CS} {t : Nat} {n : Int32} {h : Nat} {d0 dp : Int32} {Q : UInt64 → CS → Prop}
theorem Rdy.hf (R : Rdy σ τ t n h d0) : gA τ 11 t = n := R.2.2.2.2.2.2.1
theorem Rdy.he (R : Rdy σ τ t n h d0) : gA τ 12 t = en h := R.2.2.2.2.2.2.2
theorem Rdy.a0 (R : Rdy σ τ t n h d0) : gA τ 0 = gA σ 0 := R.1.1.1.1
theorem Rdy.a1 (R : Rdy σ τ t n h d0) : gA τ 1 = gA σ 1 := R.1.1.1.2.1
theorem Rdy.a2 (R : Rdy σ τ t n h d0) : gA τ 2 = gA σ 2 := R.1.1.1.2.2.1
theorem Rdy.a3 (R : Rdy σ τ t n h d0) : gA τ 3 = gA σ 3 := R.1.1.1.2.2.2.1
theorem stg {τ2 τ' : CS} {t : Nat} (k : Kp τ2 τ' (t + 1)) {v : Int32} (e : gA τ2 13 t = v) : gA τ' 13 t = v := by
  rw [k.1 13 (by omega) (by omega) t (by omega)]; exact e
theorem T13 {τ : CS} {t : Nat} {v : Int32} : Tw τ (sA τ 13 (upd (gA τ 13) t v)) t := Tw_A (by decide) (by decide) (by decide)
theorem s13 {τ : CS} {t : Nat} {v : Int32} : gA (sA τ 13 (upd (gA τ 13) t v)) 13 t = v := by rw [gA_sA, upd_self]
theorem m_seq (hV : VS V d) (hn : vp_in n 48) (hh : hv σ h) (hdp : dp = Int32.ofNat (t + 1)) (hd : t + d = 80) (ht : t < 80) (I : In σ) (C : Cm σ) (R : Rdy σ τ t n h d0) (e6 : gI σ 6 = d0) (h13 : gA τ 13 t = 0) (hk : gA σ 0 n.toNatClampNeg = 14) (ha : vp_in (gA σ 1 n.toNatClampNeg) 48) (hb : vp_in (gA σ 2 n.toNatClampNeg) 48) (q : HQ σ t τ Q) : wp_WK_sequence V n h dp σ Q := by
  refine ⟨hv9 hh, hn, child hV q R hn (k_ne hk (by decide)) hd I C T13 ha hh hdp ht (fun X hX => st_14_0 R.2.1 ht R.hf hn (by rw [R.a0]; exact hk) h13 (by rw [R.a1, R.he]; exact hX)) (fun r s τ' wr fs C2 wk q2 R2 kp vx => leave_of (fun _ _ => tk rfl ⟨hn, ?_⟩) (fun hl => nl C2 hl)) (fun r s wr hl hq => leave_of (fun a b => lv hl a b) (fun _ => sk (by decide) (hq _ wi0)))⟩
  have hk2 : gA s 0 n.toNatClampNeg = 14 := by rw [fs.1.1]; exact hk
  refine child hV q2 R2 hn (k_ne hk2 (by decide)) hd (fs.inv I) C2 T13 (by rw [fs.1.2.2.1]; exact hb) (fs.vh hh) hdp ht (fun X hX => st_14_1 R2.2.1 ht R2.hf hn (by rw [R2.a0]; exact hk2) (stg kp s13) (by rw [R2.a2, R2.he]; exact hX)) (fun r2 s2 τ2 wr2 fs2 C3 wk2 q3 R3 kp2 vx2 => ?_) (fun r s wr hl hq => hq _ wr)
  have hk3 : gA s2 0 n.toNatClampNeg = 14 := by rw [fs2.1.1]; exact hk2
  exact q3.fin R3 T13 (by rw [fs2.2.2.1, fs.2.2.1]; exact e6) (fs2.inv (fs.inv I)) C3 ht wr2 (fun X hX => st_14_2 R3.2.1 ht R3.hf hn (by rw [R3.a0]; exact hk3) (stg kp2 s13) (by rw [vx2]; exact hX))
theorem m_if (hV : VS V d) (hn : vp_in n 48) (hh : hv σ h) (hdp : dp = Int32.ofNat (t + 1)) (hd : t + d = 80) (ht : t < 80) (I : In σ) (C : Cm σ) (R : Rdy σ τ t n h d0) (e6 : gI σ 6 = d0) (h13 : gA τ 13 t = 0) (hk : gA σ 0 n.toNatClampNeg = 9) (ha : vp_in (gA σ 1 n.toNatClampNeg) 48) (hb : vp_in (gA σ 2 n.toNatClampNeg) 48) (hc : vp_in (gA σ 3 n.toNatClampNeg) 48) (q : HQ σ t τ Q) : wp_WK_choice V n h dp σ Q := by
  refine ⟨hv9 hh, hn, child hV q R hn (k_ne hk (by decide)) hd I C T13 ha hh hdp ht (fun X hX => st_9_0 R.2.1 ht R.hf hn (by rw [R.a0]; exact hk) h13 (by rw [R.a1, R.he]; exact hX)) (fun r s τ' wr fs C2 wk q2 R2 kp vx => leave_of (fun _ _ => tk rfl ⟨fun hz => ⟨hn, ?_⟩, fun hz => ⟨hn, ?_⟩⟩) (fun hl => nl C2 hl)) (fun r s wr hl hq => leave_of (fun a b => lv hl a b) (fun _ => sk (by decide) (hq _ wi0)))⟩
  · have hk2 : gA s 0 n.toNatClampNeg = 9 := by rw [fs.1.1]; exact hk
    refine child hV q2 R2 hn (k_ne hk2 (by decide)) hd (fs.inv I) C2 T13 (by rw [fs.1.2.2.2.1]; exact hc) (fs.vh hh) hdp ht (fun X hX => st_9_1z R2.2.1 ht R2.hf hn (by rw [R2.a0]; exact hk2) (stg kp s13) (by rw [vx]; exact hz) (by rw [R2.a3, R2.he]; exact hX)) (fun r2 s2 τ2 wr2 fs2 C3 wk2 q3 R3 kp2 vx2 => ?_) (fun r s wr hl hq => hq _ wr)
    have hk3 : gA s2 0 n.toNatClampNeg = 9 := by rw [fs2.1.1]; exact hk2
    exact q3.fin R3 T13 (by rw [fs2.2.2.1, fs.2.2.1]; exact e6) (fs2.inv (fs.inv I)) C3 ht wr2 (fun X hX => st_9_2 R3.2.1 ht R3.hf hn (by rw [R3.a0]; exact hk3) (stg kp2 s13) (by rw [vx2]; exact hX))
  · have hk2 : gA s 0 n.toNatClampNeg = 9 := by rw [fs.1.1]; exact hk
    refine child hV q2 R2 hn (k_ne hk2 (by decide)) hd (fs.inv I) C2 T13 (by rw [fs.1.2.2.1]; exact hb) (fs.vh hh) hdp ht (fun X hX => st_9_1n R2.2.1 ht R2.hf hn (by rw [R2.a0]; exact hk2) (stg kp s13) (by rw [vx]; exact hz) (by rw [R2.a2, R2.he]; exact hX)) (fun r2 s2 τ2 wr2 fs2 C3 wk2 q3 R3 kp2 vx2 => ?_) (fun r s wr hl hq => hq _ wr)
    have hk3 : gA s2 0 n.toNatClampNeg = 9 := by rw [fs2.1.1]; exact hk2
    exact q3.fin R3 T13 (by rw [fs2.2.2.1, fs.2.2.1]; exact e6) (fs2.inv (fs.inv I)) C3 ht wr2 (fun X hX => st_9_2 R3.2.1 ht R3.hf hn (by rw [R3.a0]; exact hk3) (stg kp2 s13) (by rw [vx2]; exact hX))
theorem m_loop (hV : VS V d) (hn : vp_in n 48) (hdp : dp = Int32.ofNat (t + 1)) (hd : t + d = 80) (ht : t < 80) (k : Nat) : ∀ (x : Int32) (σ τ : CS), x.toInt + k = 301 → 0 ≤ x.toInt → x.toInt ≤ (gI σ 0).toInt → hv σ h → In σ → Cm σ → Rdy σ τ t n h d0 → gI σ 6 = d0 → ¬ gA τ 13 t = 1 → gA σ 0 n.toNatClampNeg = 15 → vp_in (gA σ 1 n.toNatClampNeg) 48 → vp_in (gA σ 2 n.toNatClampNeg) 48 → HQ σ t τ Q → lp_WK_loop_3 V n h dp Q (k + 1) x σ := by
  induction k with
  | zero =>
    intro x σ τ hx x0 xw hh I C R e6 h13 hk ha hb q
    have := I.2.2.2.2
    exfalso
    omega
  | succ k ih =>
    intro x σ τ hx x0 xw hh I C R e6 h13 hk ha hb q
    unfold lp_WK_loop_3
    have x3 : ¬ (300 : Int32) < x := by
      rw [Int32.lt_iff_toInt_lt]
      have : (300 : Int32).toInt = 300 := rfl
      omega
    refine sk x3 ⟨hn, child hV q R hn (k_ne hk (by decide)) hd I C T13 ha hh hdp ht (fun X hX => st_15 R.2.1 ht R.hf hn (by rw [R.a0]; exact hk) (rp_0 ht hn h13 (by rw [R.a1, R.he]; exact hX))) (fun r s τ' wr fs C2 wk q2 R2 kp vx => leave_of (fun _ _ => tk rfl ⟨fun hz => ?_, fun hz => ⟨hn, ?_⟩⟩) (fun hl => nl C2 hl)) (fun r s wr hl hq => leave_of (fun a b => lv hl a b) (fun _ => sk (by decide) (hq _ wi0)))⟩
    · have hk2 : gA s 0 n.toNatClampNeg = 15 := by rw [fs.1.1]; exact hk
      exact q2.fin R2 (Tw.rf _ _) (by rw [fs.2.2.1]; exact e6) (fs.inv I) C2 ht wi0 (fun X hX => st_15 R2.2.1 ht R2.hf hn (by rw [R2.a0]; exact hk2) (rp_1z ht (stg kp s13) (by rw [vx]; exact hz) hX))
    · have hk2 : gA s 0 n.toNatClampNeg = 15 := by rw [fs.1.1]; exact hk
      refine child hV q2 R2 hn (k_ne hk2 (by decide)) hd (fs.inv I) C2 T13 (by rw [fs.1.2.2.1]; exact hb) (fs.vh hh) hdp ht (fun X hX => st_15 R2.2.1 ht R2.hf hn (by rw [R2.a0]; exact hk2) (rp_1n ht hn (stg kp s13) (by rw [vx]; exact hz) (by rw [R2.a2, R2.he]; exact hX))) (fun r2 s2 τ2 wr2 fs2 C3 wk2 q3 R3 kp2 vx2 => leave_of (fun _ _ => tk rfl ?_) (fun hl => nl C3 hl)) (fun r s wr hl hq => leave_of (fun a b => lv hl a b) (fun _ => sk (by decide) (hq _ wi0)))
      have ft := fs.tr fs2
      have x1 : (x + 1).toInt = x.toInt + 1 := by
        rw [Int32.toInt_add, show (1 : Int32).toInt = 1 from rfl, Int.bmod_eq_of_le (by omega) (by omega)]
      exact ih (x + 1) s2 τ2 (by omega) (by omega) (by omega) (ft.vh hh) (ft.inv I) C3 R3 (by rw [ft.2.2.1]; exact e6) (by rw [stg kp2 s13]; decide) (by rw [ft.1.1]; exact hk) (by rw [ft.1.2.1]; exact ha) (by rw [ft.1.2.2.1]; exact hb) q3
end METHODS
theorem in2 {a : Int32} (h : vp_in a 2) : a = 0 ∨ a = 1 := by
  have h1 : ¬ a < 0 := fun g => h (Or.inl g)
  have h2 : ¬ 2 ≤ a.toNatClampNeg := fun g => h (Or.inr g)
  rw [Int32.lt_iff_toInt_lt] at h1
  have e : a.toNatClampNeg = a.toInt.toNat := rfl
  have z : (0 : Int32).toInt = 0 := rfl
  have o : (1 : Int32).toInt = 1 := rfl
  rw [← Int32.toInt_inj, ← Int32.toInt_inj]
  omega
theorem en8 : en 8 = 0 := rfl
theorem en_pos {h : Nat} (hh : h < 8) : ¬ en h ≤ 0 ∧ vp_in (en h) 10 ∧ (en h).toNatClampNeg = h + 1 ∧ ¬ en h = 0 := by
  unfold en vp_in
  match h, hh with
  | 0, _ => decide
  | 1, _ => decide
  | 2, _ => decide
  | 3, _ => decide
  | 4, _ => decide
  | 5, _ => decide
  | 6, _ => decide
  | 7, _ => decide
  | h + 8, hh => omega
theorem ix {h : Nat} (hh : h < 8) {a : Int32} (ha : vp_in a 2) : vp_in ((2 * en h) + a) 20 ∧ ((2 * en h) + a).toNatClampNeg = 2 * (h + 1) + a.toNatClampNeg ∧ a.toNatClampNeg < 2 ∧ Int32.ofNat a.toNatClampNeg = a := by
  rcases in2 ha with rfl | rfl
  · unfold en vp_in
    match h, hh with
    | 0, _ => decide
    | 1, _ => decide
    | 2, _ => decide
    | 3, _ => decide
    | 4, _ => decide
    | 5, _ => decide
    | 6, _ => decide
    | 7, _ => decide
    | h + 8, hh => omega
  · unfold en vp_in
    match h, hh with
    | 0, _ => decide
    | 1, _ => decide
    | 2, _ => decide
    | 3, _ => decide
    | 4, _ => decide
    | 5, _ => decide
    | 6, _ => decide
    | 7, _ => decide
    | h + 8, hh => omega
theorem hv_cases {σ : CS} {h : Nat} (I : In σ) (hh : hv σ h) : (h = 8 ∧ gC σ h = none) ∨ (h < 8 ∧ ∃ c, gC σ h = some c) := by
  rcases hh with e | ⟨h8, e⟩
  · exact Or.inl ⟨e, by rw [e]; exact I.2.1.1⟩
  · refine Or.inr ⟨h8, ?_⟩
    match hc : gC σ h with
    | none => exact absurd hc e
    | some c => exact ⟨c, rfl⟩
section LEAVES
variable {V : VT} {d : Nat} {σ τ : CS} {t : Nat} {n : Int32} {h : Nat} {d0 dp : Int32} {Q : UInt64 → CS → Prop}
theorem m_var (hn : vp_in n 48) (ht : t < 80) (I : In σ) (C : Cm σ) (R : Rdy σ τ t n h d0) (e6 : gI σ 6 = d0) (hk : gA σ 0 n.toNatClampNeg = 1) (ha : vp_in (gA σ 1 n.toNatClampNeg) 8) (q : HQ σ t τ Q) : Q (gD σ 0 (gA σ 1 n.toNatClampNeg).toNatClampNeg) σ :=
  q.fin R (Tw.rf _ _) e6 I C ht (I.2.1.2.2.1 _) (fun X hX => st_1 R.2.1 ht R.hf hn (by rw [R.a0]; exact hk) (by rw [R.a1]; exact ha) (by rw [R.a1, R.1.1.2.2.1]; exact hX))
theorem m_local (hn : vp_in n 48) (hh : hv σ h) (ht : t < 80) (I : In σ) (C : Cm σ) (R : Rdy σ τ t n h d0) (e6 : gI σ 6 = d0) (hk : gA σ 0 n.toNatClampNeg = 11) (ha : vp_in (gA σ 1 n.toNatClampNeg) 2) (q : HQ σ t τ Q) : wp_EN_hasLocals h σ (fun r13 s14 => ((r13 = 0 → (wp_WK_fail 4 s14 (fun r16 s17 => Q r16 s17))) ∧ (¬ r13 = 0 → (vp_in (gA σ 1 n.toNatClampNeg) 2 ∧ Q (gD s14 (20 + h) ((gA σ 1 n.toNatClampNeg).toNatClampNeg)) s14)))) := by
  have hk' : gA τ 0 n.toNatClampNeg = 11 := by rw [R.a0]; exact hk
  refine ⟨hv9 hh, fun hg => tk rfl ?_, fun c hc => sk (by decide) ⟨ha, ?_⟩⟩
  · rcases hv_cases I hh with ⟨e, -⟩ | ⟨-, c, hc⟩
    · subst e
      exact q.fail R (Tw.rf _ _) I C ht (by decide) (by decide) (fun X hX => st_11z R.2.1 ht R.hf hn hk' R.he hX)
    · rw [hg] at hc; cases hc
  · rcases hv_cases I hh with ⟨-, hg⟩ | ⟨h8, -⟩
    · rw [hg] at hc; cases hc
    · obtain ⟨x1, x2, x3, x4⟩ := ix h8 ha
      have ee := (R.1.2.1 h h8 c hc).2.2 _ x3
      refine q.fin R (Tw.rf _ _) e6 I C ht (I.2.1.2.2.2.2.1 h h8 _).2 (fun X hX => st_11n R.2.1 ht R.hf hn hk' (by rw [R.he]; exact (en_pos h8).2.2.2) (by rw [R.he, R.a1]; exact x1) ?_)
      rw [R.he, R.a1, x2, ee.2.2.1]
      exact hX
theorem jm_none {a : Int32} {τ : CS} {X : CS → Prop} (hX : wp_MO_wrong 5 τ X) : ∀ u : Nat, u < 300 → (∀ f, f ≤ u → vp_in (gA τ 11 f) 48 ∧ ¬ Mt τ a f) → ∃ fu, lp_MO_jump_7 a X fu (Int32.ofNat u) τ := by
  have base : lp_MO_jump_7 a X 1 (-1) τ := by
    unfold lp_MO_jump_7
    exact tk (by decide) (sk (by decide) hX)
  have stepd : ∀ u : Nat, u < 300 → (vp_in (gA τ 11 u) 48 ∧ ¬ Mt τ a u) → ∀ fu, lp_MO_jump_7 a X fu (Int32.ofNat u + (-1)) τ → lp_MO_jump_7 a X (fu + 1) (Int32.ofNat u) τ := by
    intro u hu hm fu hq
    unfold lp_MO_jump_7
    rw [t_nat (by omega)]
    refine sk (fun g => ?_) ⟨t_in (by omega) (by omega), hm.1, ?_⟩
    · rw [Int32.lt_iff_toInt_lt, t_int (by omega)] at g
      have : (0 : Int32).toInt = 0 := rfl
      omega
    · by_cases k17 : gA τ 0 (gA τ 11 u).toNatClampNeg = 17
      · exact tk k17 ⟨t_in (by omega) (by omega), hm.1, sk (fun g => hm.2 ⟨k17, g⟩) hq⟩
      · exact sk k17 hq
  intro u
  induction u with
  | zero => exact fun hu hm => ⟨2, stepd 0 hu (hm 0 (by omega)) 1 base⟩
  | succ u ih =>
    intro hu hm
    obtain ⟨fu, hq⟩ := ih (by omega) (fun f hf => hm f (by omega))
    refine ⟨fu + 1, stepd (u + 1) hu (hm (u + 1) (by omega)) fu ?_⟩
    have : Int32.ofNat (u + 1) + (-1) = Int32.ofNat u := by
      rw [show ((-1) : Int32) = -(1 : Int32) from rfl, ← Int32.sub_eq_add_neg]
      exact t_sub (by omega)
    rw [this]
    exact hq
theorem jm_hit {a : Int32} {τ : CS} {X : CS → Prop} {t : Nat} (ht : t < 80) (hv : vp_in (gA τ 11 t) 48) (hm : Mt τ a t) (hX : wp_MO_end FP.dconst0 (sI (sI τ 13 (gI τ 13 + 1)) 8 (Int32.ofNat (t + 1))) X) : ∀ k : Nat, t + k < 300 → (∀ f, t < f → f ≤ t + k → vp_in (gA τ 11 f) 48 ∧ ¬ Mt τ a f) → ∃ fu, lp_MO_jump_7 a X fu (Int32.ofNat (t + k)) τ := by
  intro k
  induction k with
  | zero =>
    refine fun hu _ => ⟨1, ?_⟩
    unfold lp_MO_jump_7
    rw [t_nat (by omega)]
    have p0 : ¬ Int32.ofNat (t + 0) < 0 := fun g => by
      rw [Int32.lt_iff_toInt_lt, t_int (by omega)] at g
      have : (0 : Int32).toInt = 0 := rfl
      omega
    refine sk p0 ⟨t_in (by omega) (by omega), hv, tk hm.1 ⟨t_in (by omega) (by omega), hv, tk hm.2 (tk (Int32.not_lt.mp p0) (fun s es s2 es2 => ?_))⟩⟩
    rw [es2, es]
    rw [t_add (by omega)]
    exact hX
  | succ k ih =>
    intro hu hm2
    obtain ⟨fu, hq⟩ := ih (by omega) (fun f h1 h2 => hm2 f h1 (by omega))
    refine ⟨fu + 1, ?_⟩
    unfold lp_MO_jump_7
    rw [t_nat (by omega)]
    have m := hm2 (t + (k + 1)) (by omega) (by omega)
    have e : Int32.ofNat (t + (k + 1)) + (-1) = Int32.ofNat (t + k) := by
      rw [show ((-1) : Int32) = -(1 : Int32) from rfl, ← Int32.sub_eq_add_neg]
      exact t_sub (t := t + k) (by omega)
    rw [e]
    refine sk (fun g => ?_) ⟨t_in (by omega) (by omega), m.1, ?_⟩
    · rw [Int32.lt_iff_toInt_lt, t_int (by omega)] at g
      have : (0 : Int32).toInt = 0 := rfl
      omega
    · by_cases k17 : gA τ 0 (gA τ 11 (t + (k + 1))).toNatClampNeg = 17
      · exact tk k17 ⟨t_in (by omega) (by omega), m.1, sk (fun g => m.2 ⟨k17, g⟩) hq⟩
      · exact sk k17 hq
theorem m_jump (hn : vp_in n 48) (ht : t < 80) (I : In σ) (C : Cm σ) (R : Rdy σ τ t n h d0) (hk : gA σ 0 n.toNatClampNeg = 16) (ha : vp_in (gA σ 1 n.toNatClampNeg) 4) (q : HQ σ t τ Q) : wp_WK_jump (gA σ 1 n.toNatClampNeg) σ Q := by
  have hk' : gA τ 0 n.toNatClampNeg = 16 := by rw [R.a0]; exact hk
  refine ⟨ha, fun hz => ?_, fun hz s es => ?_⟩
  · refine q.fail R (Tw.rf _ _) I C ht (by decide) (k' := 5) (by decide) (fun X hX => st_16 R.2.1 ht R.hf hn hk' ?_)
    unfold wp_MO_jump
    rw [R.2.1, t_sub (by omega)]
    refine jm_none hX t (by omega) (fun f hf => ?_)
    obtain ⟨c, h1, h2, h3⟩ := R.1.2.2.2.2.1 _ ha
    have c0 : c = 0 := by
      have e : (Int32.ofNat c).toInt = 0 := by rw [← h2, hz]; rfl
      rw [t_int (by omega)] at e
      omega
    by_cases e : f = t
    · rw [e, R.hf]
      refine ⟨hn, fun m => ?_⟩
      have := m.1
      rw [R.hf, hk'] at this
      exact absurd this (by decide)
    · refine ⟨R.1.2.2.2.2.2 f (by omega), ?_⟩
      rw [R.a1]
      exact h3.mp c0 f (by omega)
  · rw [es]
    refine q _ _ τ wi0 (Fr_sI (by decide) (by decide) (by decide) (by decide) I) (Gos.rf _) (Or.inr (Or.inr ⟨by rw [gI_s (by decide)]; exact C.1, gA σ 1 n.toNatClampNeg, gI_sI, ha, hz, Kp.rf _ _, R.1.1.ci (by decide), R.1.2.1.ci (by decide), by rw [gI_s (by decide)]; exact R.1.2.2.1, R.1.2.2.2.1, t, Nat.le_refl _, ht, R.2.1, by rw [R.hf]; exact hn, by rw [R.hf]; exact hk', by rw [R.hf, R.a1], fun f h1 h2 => ?_⟩))
    have e : f = t := by omega
    rw [e, R.hf]
    refine ⟨hn, fun m => ?_⟩
    have := m.1
    rw [R.hf, hk'] at this
    exact absurd this (by decide)
end LEAVES
theorem EI_A7 {σ : CS} {v : Nat → Int32} (he : EI σ) : EI (sA σ 7 v) := by
  obtain ⟨h0, h1, h2, h3, h4, h5⟩ := he
  refine ⟨h0, fun h h9 c hc => ⟨(h1 h h9 c hc).1, fun a ha hl => ?_⟩, h2, h3, h4, h5⟩
  rw [gA_s (by omega)]
  exact (h1 h h9 c hc).2 a ha hl
theorem Pg_A7 {σ : CS} {v : Nat → Int32} : Pg σ (sA σ 7 v) := ⟨gA_s (by decide), gA_s (by decide), gA_s (by decide), gA_s (by decide), gA_s (by decide), gA_s (by decide), gA_s (by decide), rfl⟩
theorem In_A7 {σ : CS} {v : Nat → Int32} (I : In σ) : In (sA σ 7 v) := ⟨Pg_A7.pw I.1, EI_A7 I.2.1, I.2.2.1, I.2.2.2⟩
theorem vp_nat {a b : Int32} {N : Nat} (ha : vp_in a N) (hb : vp_in b N) (h : a.toNatClampNeg = b.toNatClampNeg) : a = b := by
  have h1 : ¬ a < 0 := fun g => ha (Or.inl g)
  have h2 : ¬ b < 0 := fun g => hb (Or.inl g)
  rw [Int32.lt_iff_toInt_lt] at h1 h2
  have ea : a.toNatClampNeg = a.toInt.toNat := rfl
  have eb : b.toNatClampNeg = b.toInt.toNat := rfl
  have z : (0 : Int32).toInt = 0 := rfl
  rw [← Int32.toInt_inj]
  omega
section LABEL
variable {V : VT} {d : Nat} {σ τ : CS} {t : Nat} {n : Int32} {h : Nat} {d0 dp : Int32} {Q : UInt64 → CS → Prop}
theorem m_label (hV : VS V d) (hn : vp_in n 48) (hh : hv σ h) (hdp : dp = Int32.ofNat (t + 1)) (hd : t + d = 80) (ht : t < 80) (I : In σ) (C : Cm σ) (R : Rdy σ τ t n h d0) (e6 : gI σ 6 = d0) (h13 : gA τ 13 t = 0) (hk : gA σ 0 n.toNatClampNeg = 17) (ha : vp_in (gA σ 1 n.toNatClampNeg) 4) (hb : vp_in (gA σ 2 n.toNatClampNeg) 48) (q : HQ σ t τ Q) : wp_WK_label V n h dp σ Q := by
  have hk' : gA τ 0 n.toNatClampNeg = 17 := by rw [R.a0]; exact hk
  refine ⟨hv9 hh, hn, ha, ha, fun s1 e1 => ⟨hn, ?_⟩⟩
  generalize hm : gA σ 1 n.toNatClampNeg = m at ha e1 ⊢
  have T : Tw τ (sA τ 13 (upd (gA τ 13) t 1)) t := T13
  have R2 := R.tw T
  generalize hτ : sA τ 13 (upd (gA τ 13) t 1) = τ2 at T R2
  have a71 : gA s1 7 = upd (gA σ 7) m.toNatClampNeg (gA σ 7 m.toNatClampNeg + 1) := by rw [e1, gA_sA]
  have P1 : Pg σ s1 := by rw [e1]; exact Pg_A7
  have I1 : In s1 := by rw [e1]; exact In_A7 I
  have C1 : Cm s1 := by rw [e1]; exact C
  have i1 : ∀ j, gI s1 j = gI σ j := fun j => by rw [e1]; rfl
  have g1 : ∀ j, gC s1 j = gC σ j := fun j => by rw [e1]; rfl
  have Mtt : Mt τ2 m t := by
    unfold Mt
    rw [R2.hf, R2.a0, R2.a1]
    exact ⟨hk, hm⟩
  have L1 : Rl s1 τ2 (t + 1) := by
    obtain ⟨⟨q1, q2, q3, q4, q5, q6⟩, r2, r3, r4, r5, r6, r7, r8⟩ := R2
    refine ⟨⟨by rw [e1]; exact q1.ca, by rw [e1]; exact q2.ca, by rw [i1]; exact q3, q4, fun a haa => ?_, fun f hf => ?_⟩, r2, by rw [i1]; exact r5, by rw [i1]; exact r6⟩
    · obtain ⟨c, h1, h2, h3⟩ := q5 a haa
      by_cases e : a = m
      · subst e
        refine ⟨c + 1, by omega, by rw [a71, upd_self, h2, t_add (by omega)], ?_⟩
        exact ⟨fun g => absurd g (by omega), fun g => absurd Mtt (g t (by omega))⟩
      · have ne : a.toNatClampNeg ≠ m.toNatClampNeg := fun g => e (vp_nat haa ha g)
        refine ⟨c, by omega, by rw [a71, upd_ne ne]; exact h2, h3.trans ⟨fun g f hf => ?_, fun g f hf => g f (by omega)⟩⟩
        by_cases ef : f = t
        · rw [ef]
          intro mm
          exact e (mm.2.symm.trans Mtt.2)
        · exact g f (by omega)
    · by_cases ef : f = t
      · rw [ef, r7]; exact hn
      · exact q6 f (by omega)
  have hs : ∀ X, wp_MO_enter (gA s1 2 n.toNatClampNeg) (en h) τ2 X → wp_MO_step τ X := fun X hX => st_17_0 R.2.1 ht R.hf hn hk' h13 (by rw [hτ, R.a2, R.he, ← P1.2.2.1]; exact hX)
  refine hV _ h (dp + 1) s1 τ2 (t + 1) _ (by rw [P1.2.2.1]; exact hb) (hh.imp id (fun y => ⟨y.1, by rw [g1]; exact y.2⟩)) (by rw [hdp]; exact t_add (by omega)) (by omega) I1 C1 L1 (fun r s τ' wr fs en ou => ⟨ha, ha, fun s4 e4 => ?_⟩)
  have go : Gos τ τ' := Gos_ent (R.pos ht) R.1.2.2.2.1 hs en
  have a74 : gA s4 7 = gA σ 7 := by
    rw [e4, gA_sA, fs.2.2.2.1, a71]
    funext j
    by_cases e : j = m.toNatClampNeg
    · rw [e, upd_self, upd_self]
      exact Int32.add_sub_cancel _ _
    · rw [upd_ne e, upd_ne e]
  have i4 : ∀ j, gI s4 j = gI s j := fun j => by rw [e4]; rfl
  have P4 : Pg σ s4 := by rw [e4]; exact (P1.tr fs.1).tr Pg_A7
  have f4 : Fr σ s4 := by
    refine ⟨P4, by rw [i4, fs.2.1, i1], by rw [i4, fs.2.2.1, i1], a74, fun x hx => ?_, ?_, ?_, ?_⟩
    · rw [e4]
      exact fs.2.2.2.2.1 x (by rw [g1]; exact hx)
    · rw [e4]; exact EI_A7 fs.2.2.2.2.2.1
    · unfold Wk; rw [i4]; exact fs.2.2.2.2.2.2.1
    · have := fs.2.2.2.2.2.2.2
      rw [i4]; rw [i1] at this; exact this
  have lk4 : ∀ {z : CS}, Lk s z → Lk s4 z := fun y => by rw [e4]; exact y.ca
  have en4 : ∀ {z : CS}, En s z → En s4 z := fun y => by rw [e4]; exact y.ca
  have b4 : ∀ {z : CS}, Lk s z → En s z → gI z 9 = gI s 0 → gI z 10 = 0 → Kp τ2 z (t + 1) → Rb s4 z t := fun {z} y1 y2 y3 y4 y5 => by
    refine ⟨lk4 y1, en4 y2, by rw [i4]; exact y3, y4, ?_, fun f hf => ?_⟩
    · refine R2.1.2.2.2.2.1.fr a74 ?_ ?_ (fun f hf => y5.1 11 (by omega) (by omega) f (by omega))
      · rw [y1.1.1, R2.a0, ← P4.1, e4]; exact (gA_s (by decide)).symm
      · rw [y1.1.2.1, R2.a1, ← P4.2.1, e4]; exact (gA_s (by decide)).symm
    · rw [y5.1 11 (by omega) (by omega) f (by omega)]; exact R2.1.2.2.2.2.2 f hf
  have d4 : ∀ {z : CS}, gI z 8 = Int32.ofNat (t + 1) → Kp τ2 z (t + 1) → Fdn s4 z t := fun {z} y1 y5 => by
    refine ⟨y1, ?_, ?_⟩
    · rw [y5.1 14 (by omega) (by omega) t (by omega), f4.2.2.1, e6]; exact R2.2.2.1
    · rw [y5.1 15 (by omega) (by omega) t (by omega), f4.2.1]; exact R2.2.2.2.1
  rcases ou with ⟨o1, o2, o3, o4, o5, o6⟩ | ⟨o1, o2, o3, o4, o5⟩ | ⟨o1, a, o2, o3, o4, o5, o6⟩
  · refine sk (by rw [i4, o2]; exact fun g => vp4_ne ha g.symm) ?_
    have kk : Kp τ τ' t := T.2.1.tr (o6.lo (by omega))
    have q2 : HQ s4 t τ' Q := q.nx f4 go kk (by rw [i4]; rw [i1] at o3; omega)
    refine q2.fini (τ2 := sA τ' 13 (upd (gA τ' 13) t 2)) ((b4 o4.1.1 o4.1.2.1 o4.1.2.2.1 o4.1.2.2.2.1 o6).sm (Sm_A (by decide))) ?_ Kp_A (f4.inv I) ⟨by rw [i4]; exact o1, by rw [i4]; exact o2⟩ ht wr ?_ o4.1.2.2.2.1 (fun X hX => st_17_1 o4.2.1 ht ?_ hn ?_ ?_ ?_)
    · have := d4 o4.2.1 o6
      exact ⟨this.1, by rw [gA_s (by decide)]; exact this.2.1, by rw [gA_s (by decide)]; exact this.2.2⟩
    · rw [o4.2.1]; exact t_pos (by omega)
    · rw [o6.1 11 (by omega) (by omega) t (by omega)]; exact R2.hf
    · rw [o4.1.1.1.1, fs.1.1, P1.1]; exact hk
    · rw [o6.1 13 (by omega) (by omega) t (by omega), ← hτ]; exact s13
    · rw [o5]; exact hX
  · refine sk (by rw [i4, o2]; exact fun g => vp4_ne ha g.symm) ?_
    exact q r s4 τ' wr f4 go (Or.inr (Or.inl ⟨by rw [i4]; exact o1, by rw [i4]; exact o2, o3, lk4 o4, en4 o5⟩))
  · obtain ⟨j1, j2, j3, j4, u, j5, j6, j7, j8, j9, j10, j11⟩ := o6
    by_cases e : a = m
    · subst e
      refine tk (by rw [i4]; exact o2) (fun s6 e6' s7 e7 => ?_)
      have kk : Kp τ τ' t := T.2.1.tr (o5.lo (by omega))
      have f7 : Fr σ s7 := by
        rw [e7, e6']
        exact (f4.tr (Fr_sI (by decide) (by decide) (by decide) (by decide) (f4.inv I))).tr (Fr_sI (by decide) (by decide) (by decide) (by decide) ((Fr_sI (by decide) (by decide) (by decide) (by decide) (f4.inv I)).inv (f4.inv I)))
      have i7 : ∀ j, j ≠ 7 → j ≠ 4 → gI s7 j = gI s j := fun j h1 h2 => by rw [e7, gI_s h2, e6', gI_s h1, i4]
      have w7 : (gI σ 0).toInt ≤ (gI s7 0).toInt := f7.2.2.2.2.2.2.2
      have q2 : HQ s7 t τ' Q := q.nx f7 go kk w7
      have rb : Rb s7 τ' t := by
        obtain ⟨y1, y2, y3, y4, y5, y6⟩ := b4 j1 j2 j3 j4 o5
        rw [e7, e6']
        exact ⟨(y1.ci (by decide)).ci (by decide), (y2.ci (by decide)).ci (by decide), by rw [gI_s (by decide), gI_s (by decide)]; exact y3, y4, y5, y6⟩
      refine q2.fini (τ2 := sI (sI τ' 13 (gI τ' 13 + 1)) 8 (Int32.ofNat (t + 1))) ?_ ?_ (Kp.rf _ _) (f7.inv I) ⟨by rw [i7 1 (by decide) (by decide)]; exact o1, by rw [e7, gI_s (by decide), e6', gI_sI]⟩ ht wi0 ?_ j4 (fun X hX => st_16 j7 j6 rfl j8 j9 ?_)
      · obtain ⟨y1, y2, y3, y4, y5, y6⟩ := rb
        exact ⟨(y1.ri (by decide)).ri (by decide), y2, by rw [gI_s (by decide), gI_s (by decide)]; exact y3, by rw [gI_s (by decide), gI_s (by decide)]; exact y4, y5, y6⟩
      · refine ⟨gI_sI, ?_, ?_⟩
        · have := (d4 (z := sI τ' 8 (Int32.ofNat (t + 1))) gI_sI o5).2.1
          rw [i7 6 (by decide) (by decide), ← i4]; exact this
        · have := (d4 (z := sI τ' 8 (Int32.ofNat (t + 1))) gI_sI o5).2.2
          rw [i7 5 (by decide) (by decide), ← i4]; exact this
      · rw [j7]; exact t_pos (by omega)
      · unfold wp_MO_jump
        rw [j7, t_sub (by omega), j10]
        have ut : u = t + (u - t) := by omega
        rw [ut]
        refine jm_hit ht ?_ ?_ hX (u - t) (by omega) (fun f h1 h2 => j11 f (by omega) (by omega))
        · rw [o5.1 11 (by omega) (by omega) t (by omega), R2.hf]; exact hn
        · refine (Mt.sm (τ := τ2) ?_ ?_ (o5.1 11 (by omega) (by omega) t (by omega))).mpr Mtt
          · rw [j1.1.1, fs.1.1, P1.1, R2.a0]
          · rw [j1.1.2.1, fs.1.2.1, P1.2.1, R2.a1]
    · refine sk (by rw [i4, o2]; exact e) ?_
      have ne : a.toNatClampNeg ≠ m.toNatClampNeg := fun g => e (vp_nat o3 ha g)
      refine q r s4 τ' wr f4 go (Or.inr (Or.inr ⟨by rw [i4]; exact o1, a, by rw [i4]; exact o2, o3, ?_, T.2.1.tr (o5.lo (by omega)), lk4 j1, en4 j2, by rw [i4]; exact j3, j4, u, by omega, j6, j7, j8, j9, j10, fun f h1 h2 => ?_⟩))
      · rw [a71, upd_ne ne] at o4; exact o4
      · by_cases ef : f = t
        · have z := o5.1 11 (by omega) (by omega) t (by omega)
          rw [R2.hf] at z
          rw [ef, z]
          refine ⟨hn, fun mm => e ?_⟩
          have := mm.2
          rw [z, j1.1.2.1, fs.1.2.1, P1.2.1, hm] at this
          exact this.symm
        · exact j11 f (by omega) h2
end LABEL
theorem deeper_to {τ : CS} (h : ¬ gI τ 7 = 8) : ∃ m, ∀ X : CS → Prop, X (sI (sI τ 7 (gI τ 7 + 1)) 12 m) → wp_MO_deeper τ X := by
  by_cases c : gI (sI τ 7 (gI τ 7 + 1)) 7 ≤ gI (sI τ 7 (gI τ 7 + 1)) 12
  · refine ⟨gI (sI τ 7 (gI τ 7 + 1)) 12, fun X hX => sk h (fun s es => ?_)⟩
    subst es
    refine tk c ?_
    have e : sI (sI τ 7 (gI τ 7 + 1)) 12 (gI (sI τ 7 (gI τ 7 + 1)) 12) = sI τ 7 (gI τ 7 + 1) := by
      refine Prod.ext ?_ rfl
      funext j
      show va_up (sI τ 7 (gI τ 7 + 1)).1 12 _ j = _
      by_cases e : j = 12
      · rw [e, va_up_self]; rfl
      · rw [va_up_ne _ _ e]
    rw [e] at hX
    exact hX
  · refine ⟨gI (sI τ 7 (gI τ 7 + 1)) 7, fun X hX => sk h (fun s es => ?_)⟩
    subst es
    exact sk c (fun s2 es2 => by rw [es2]; exact hX)
theorem deeper_no {τ : CS} (h : gI τ 7 = 8) {X : CS → Prop} (hX : X (sI τ 10 7)) : wp_MO_deeper τ X := tk h (fun s es => by rw [es]; exact hX)
section ENV
variable {V : VT} {d : Nat} {σ τ : CS} {t : Nat} {n : Int32} {h : Nat} {d0 dp : Int32} {Q : UInt64 → CS → Prop}
theorem env_child (hV : VS V d) (q : HQ σ t τ Q) (I : In σ) (hd : t + d = 80) (ht : t < 80) (hdp : dp = Int32.ofNat (t + 1)) (hn : vp_in n 48) (R : Rdy σ τ t n h d0) (e6 : gI σ 6 = d0) {σ' τ2 : CS} {h' : Nat} {c : Int32} (I' : In σ') (C' : Cm σ') (L' : Rl σ' τ2 (t + 1)) (hv' : hv σ' h') (hc : vp_in c 48) (K : Kp τ τ2 t) (x11 : gA τ2 11 t = n) (x14 : gA τ2 14 t = d0) (x15 : gA τ2 15 t = gI σ 5) (e7 : gA σ' 7 = gA σ 7) (hk : gA σ 0 n.toNatClampNeg ≠ 17) (P' : Pg σ σ')
    (hs : ∀ X, wp_MO_enter c (en h') τ2 X → wp_MO_step τ X) {Q' : UInt64 → CS → Prop} (g : CS → CS) (hg : ∀ s', Fr σ' s' → Fr σ (g s') ∧ (gI (g s') 0 = gI s' 0 ∧ gI (g s') 1 = gI s' 1 ∧ gI (g s') 7 = gI s' 7) ∧ ∀ z, (Lk s' z → Lk (g s') z) ∧ (En s' z → En (g s') z))
    (hend : ∀ τ', Kp τ2 τ' (t + 1) → gI τ' 8 = Int32.ofNat (t + 1) → gA τ' 0 = gA σ 0 → gA τ' 11 t = n → ∀ X, wp_MO_end (gX τ' 0) τ' X → wp_MO_step τ' X) (hQ : ∀ r s', Q r (g s') → Q' r s') : V c h' (dp + 1) σ' Q' := by
  refine hV c h' (dp + 1) σ' τ2 (t + 1) _ hc hv' (by rw [hdp]; exact t_add (by omega)) (by omega) I' C' L' (fun r s τ' wr fs en ou => hQ r s ?_)
  have go : Gos τ τ' := Gos_ent (R.pos ht) R.1.2.2.2.1 hs en
  obtain ⟨fg, ⟨g0, g1, g7⟩, gz⟩ := hg s fs
  have p0 : gA s 0 = gA σ 0 := fs.1.1.trans P'.1
  have p1 : gA s 1 = gA σ 1 := fs.1.2.1.trans P'.2.1
  rcases ou with ⟨o1, o2, o3, o4, o5, o6⟩ | ⟨o1, o2, o3, o4, o5⟩ | ⟨o1, a, o2, o3, o4, o5, j1, j2, j3, j4, u, j5, j6, j7, j8, j9, j10, j11⟩
  · have kk : Kp τ τ' t := K.tr (o6.lo (by omega))
    have q2 : HQ (g s) t τ' Q := q.nx fg go kk fg.2.2.2.2.2.2.2
    obtain ⟨⟨l1, l2, l3, l4, l5, l6⟩, l7, l8, l9⟩ := o4
    have f11 : gA τ' 11 t = n := by rw [o6.1 11 (by omega) (by omega) t (by omega)]; exact x11
    refine q2.fini (τ2 := τ') ⟨(gz _).1 l1, (gz _).2 l2, by rw [g0]; exact l3, l4, ?_, fun f hf => l6 f (by omega)⟩ ⟨l7, ?_, ?_⟩ (Kp.rf _ _) (fg.inv I) ⟨by rw [g1]; exact o1, by rw [g7]; exact o2⟩ ht wr (by rw [l7]; exact t_pos (by omega)) l4 ?_
    · refine R.1.2.2.2.2.1.fr fg.2.2.2.1 (by rw [l1.1.1, p0, R.a0]) (by rw [l1.1.2.1, p1, R.a1]) (fun f hf => kk.1 11 (by omega) (by omega) f hf)
    · rw [o6.1 14 (by omega) (by omega) t (by omega), fg.2.2.1, e6]; exact x14
    · rw [o6.1 15 (by omega) (by omega) t (by omega), fg.2.1]; exact x15
    · rw [← o5]
      exact hend τ' o6 l7 (l1.1.1.trans p0) f11
  · exact q r (g s) τ' wr fg go (Or.inr (Or.inl ⟨by rw [g1]; exact o1, by rw [g7]; exact o2, o3, (gz _).1 o4, (gz _).2 o5⟩))
  · refine q r (g s) τ' wr fg go (Or.inr (Or.inr ⟨by rw [g1]; exact o1, a, by rw [g7]; exact o2, o3, by rw [← e7]; exact o4, K.tr (o5.lo (by omega)), (gz _).1 j1, (gz _).2 j2, by rw [g0]; exact j3, j4, u, by omega, j6, j7, j8, j9, j10, fun f h1 h2 => ?_⟩))
    by_cases ef : f = t
    · have z := o5.1 11 (by omega) (by omega) t (by omega)
      rw [x11] at z
      rw [ef, z]
      refine ⟨hn, fun mm => hk ?_⟩
      have := mm.1
      rw [z, j1.1.1, p0] at this
      exact this
    · exact j11 f (by omega) h2
def EN1 (σ : CS) : CS := sI (sI σ 6 (gI σ 6 + 1)) 3 (if (gI (sI σ 6 (gI σ 6 + 1)) 3) < (gI (sI σ 6 (gI σ 6 + 1)) 6) then (gI (sI σ 6 (gI σ 6 + 1)) 6) else (gI (sI σ 6 (gI σ 6 + 1)) 3))
theorem mayEnter_of {X : Int32 → CS → Prop} (h0 : gI σ 6 = 8 → X 0 (sI σ 1 7)) (h1 : ¬ gI σ 6 = 8 → X 1 (EN1 σ)) : wp_WK_mayEnter σ X :=
  ⟨fun h s es => by rw [es]; exact h0 h, fun h s es s2 es2 => by rw [es2, es]; exact h1 h⟩
theorem EN1_I {j : Nat} (h6 : j ≠ 6) (h3 : j ≠ 3) : gI (EN1 σ) j = gI σ j := by
  unfold EN1
  rw [gI_s h3, gI_s h6]
theorem EN1_6 : gI (EN1 σ) 6 = gI σ 6 + 1 := by
  unfold EN1
  rw [gI_s (by decide), gI_sI]
theorem oc1 (I : In σ) (h : ¬ gI σ 6 = 8) : (gI σ 6 + 1).toInt = (gI σ 6).toInt + 1 ∧ (gI σ 6).toInt < 8 ∧ 0 ≤ (gI σ 6).toInt := by
  obtain ⟨o1, o2, o3⟩ := I.2.2.1
  have h9 : (gI σ 6).toInt ≠ 8 := fun g => h (Int32.toInt_inj.mp g)
  refine ⟨?_, by omega, by omega⟩
  rw [Int32.toInt_add, show (1 : Int32).toInt = 1 from rfl, Int.bmod_eq_of_le (by omega) (by omega)]
theorem EN1_In (I : In σ) (h : ¬ gI σ 6 = 8) : In (EN1 σ) := by
  obtain ⟨k1, k2, k3⟩ := oc1 I h
  refine ⟨((Pg_sI (by decide)).tr (Pg_sI (by decide))).pw I.1, EI_sI (by decide) (EI_sI (by decide) I.2.1), ?_, ?_⟩
  · unfold OC
    rw [EN1_6, EN1_I (by decide) (by decide), k1]
    obtain ⟨o1, o2, o3⟩ := I.2.2.1
    omega
  · unfold Wk
    rw [EN1_I (by decide) (by decide)]
    exact I.2.2.2
theorem EN1_Pg : Pg σ (EN1 σ) := (Pg_sI (by decide)).tr (Pg_sI (by decide))
theorem EN1_Lk {z : CS} (h : Lk σ z) : Lk (EN1 σ) z := (h.ci (by decide)).ci (by decide)
theorem EN1_En {z : CS} (h : En σ z) : En (EN1 σ) z := (h.ci (by decide)).ci (by decide)
theorem EN1_back {s : CS} (f : Fr (EN1 σ) s) : Fr σ (sI s 6 (gI s 6 - 1)) ∧ (gI (sI s 6 (gI s 6 - 1)) 0 = gI s 0 ∧ gI (sI s 6 (gI s 6 - 1)) 1 = gI s 1 ∧ gI (sI s 6 (gI s 6 - 1)) 7 = gI s 7) ∧ ∀ z, (Lk s z → Lk (sI s 6 (gI s 6 - 1)) z) ∧ (En s z → En (sI s 6 (gI s 6 - 1)) z) := by
  refine ⟨⟨(EN1_Pg.tr f.1).tr (Pg_sI (by decide)), ?_, ?_, f.2.2.2.1, f.2.2.2.2.1, EI_sI (by decide) f.2.2.2.2.2.1, ?_, ?_⟩, ⟨gI_s (by decide), gI_s (by decide), gI_s (by decide)⟩, fun z => ⟨fun y => y.ci (by decide), fun y => y.ci (by decide)⟩⟩
  · rw [gI_s (by decide), f.2.1, EN1_I (by decide) (by decide)]
  · rw [gI_sI, f.2.2.1, EN1_6]
    exact Int32.add_sub_cancel _ _
  · unfold Wk
    rw [gI_s (by decide)]
    exact f.2.2.2.2.2.2.1
  · have := f.2.2.2.2.2.2.2
    rw [EN1_I (by decide) (by decide)] at this
    rw [gI_s (by decide)]
    exact this
theorem pm_end {τ : CS} {a : Int32} {X : CS → Prop} (ht : t < 80) (h13 : ¬ gA τ 13 t ≤ 0) (hX : wp_MO_end (gX τ 0) τ X) : wp_MO_parameter (Int32.ofNat t) a τ X := by
  have e2 : (Int32.ofNat t).toNatClampNeg = t := t_nat (by omega)
  have e3 : vp_in (Int32.ofNat t) 310 := t_in (by omega) (by omega)
  unfold wp_MO_parameter
  simp only [e2]
  exact ⟨e3, e3, sk h13 hX⟩
theorem m_param (hV : VS V d) (hn : vp_in n 48) (hh : hv σ h) (hdp : dp = Int32.ofNat (t + 1)) (hd : t + d = 80) (ht : t < 80) (I : In σ) (C : Cm σ) (R : Rdy σ τ t n h d0) (e6 : gI σ 6 = d0) (h13 : gA τ 13 t = 0) (hk : gA σ 0 n.toNatClampNeg = 10) (ha : vp_in (gA σ 1 n.toNatClampNeg) 2) (q : HQ σ t τ Q) : wp_WK_parameter V (gA σ 1 n.toNatClampNeg) h dp σ Q := by
  have hk' : gA τ 0 n.toNatClampNeg = 10 := by rw [R.a0]; exact hk
  have e2 : (Int32.ofNat t).toNatClampNeg = t := t_nat (by omega)
  have e3 : vp_in (Int32.ofNat t) 310 := t_in (by omega) (by omega)
  have z0 : (0 : Int32) ≤ 0 := by decide
  have st : ∀ X, (wp_MO_isThere (en h) (gA σ 1 n.toNatClampNeg) τ (fun r2 s3 => ((r2 = 0 → (wp_MO_wrong 4 s3 X)) ∧ (¬ r2 = 0 → (wp_MO_isName (en h) (gA σ 1 n.toNatClampNeg) s3 (fun r5 s6 => ((r5 = 0 → (vp_in ((2 * (en h)) + (gA σ 1 n.toNatClampNeg)) 20 ∧ (wp_MO_end (gD s6 2 (((2 * (en h)) + (gA σ 1 n.toNatClampNeg)).toNatClampNeg)) s6 X))) ∧ (¬ r5 = 0 → (vp_in ((2 * (en h)) + (gA σ 1 n.toNatClampNeg)) 20 ∧ ((0 ≤ (gA s6 7 (((2 * (en h)) + (gA σ 1 n.toNatClampNeg)).toNatClampNeg)) → (vp_in (Int32.ofNat t) 310 ∧ (∀ s9 : CS, s9 = sA s6 13 (upd (gA s6 13) t 1) → (wp_MO_deeper  s9 (fun s11 => (((gI s11 10) = 0 → (vp_in ((2 * (en h)) + (gA σ 1 n.toNatClampNeg)) 20 ∧ (vp_in ((2 * (en h)) + (gA σ 1 n.toNatClampNeg)) 20 ∧ (wp_MO_enter (gA s11 7 (((2 * (en h)) + (gA σ 1 n.toNatClampNeg)).toNatClampNeg)) (gA s11 8 (((2 * (en h)) + (gA σ 1 n.toNatClampNeg)).toNatClampNeg)) s11 X)))) ∧ (¬ (gI s11 10) = 0 → X s11))))))) ∧ (¬ 0 ≤ (gA s6 7 (((2 * (en h)) + (gA σ 1 n.toNatClampNeg)).toNatClampNeg)) → (wp_MO_wrong 4 s6 X)))))))))))) → wp_MO_step τ X := by
    intro X hX
    refine st_10 R.2.1 ht R.hf hn hk' ?_
    unfold wp_MO_parameter
    simp only [e2, h13, R.he, R.a1]
    exact ⟨e3, e3, tk z0 hX⟩
  rcases hv_cases I hh with ⟨h8, hg⟩ | ⟨h8, c, hg⟩
  · refine ⟨hv9 hh, hv9 hh, fun _ => tk rfl ?_, fun c hc => ?_⟩
    · refine q.fail R (Tw.rf _ _) I C ht (by decide) (k' := 4) (by decide) (fun X hX => st X ?_)
      rw [h8, en8]
      exact tk z0 (tk rfl hX)
    · rw [hg] at hc; cases hc
  · obtain ⟨x1, x2, x3, x4⟩ := ix h8 ha
    obtain ⟨p1, p2, p3, p4⟩ := en_pos h8
    obtain ⟨w1, w2, w3⟩ := R.1.2.1 h h8 c hg
    obtain ⟨v1, v2, v3, v4⟩ := w3 _ x3
    rw [x4] at v4
    generalize gA σ 1 n.toNatClampNeg = a at *
    refine ⟨hv9 hh, hv9 hh, fun hc => ?_, fun c' hc' => ⟨fun hl => tk rfl ?_, fun hl => sk (by decide) ⟨hv9 hh, fun hb => sk (by decide) (mayEnter_of (fun h8' => tk rfl ?_) (fun h8' => sk (by decide) ⟨ha, c, ?_, ?_⟩)), fun hb => tk rfl ⟨ha, ?_⟩⟩⟩⟩
    · rw [hg] at hc; cases hc
    · refine q.fail R (Tw.rf _ _) I C ht (by decide) (k' := 4) (by decide) (fun X hX => st X ?_)
      exact sk p1 ⟨p2, tk (by rw [p3, w1]; exact hl) (tk rfl hX)⟩
    ·
      have gv := (I.2.1.2.1 h h8 c hg).2 a ha hl
      refine q.bad R (T13 (v := 1)) I C ht (by decide) (k' := 7) (by decide) (fun X hX => st X ?_) wi0
      refine sk p1 ⟨p2, sk (by rw [p3, w1]; exact hl) (sk (by decide) ⟨p2, tk (by rw [p3, w2]; exact hb) (sk (by decide) ⟨x1, tk ?_ ⟨e3, fun s9 e9 => ?_⟩⟩)⟩)⟩
      · rw [x2, v1]
        exact Int32.not_lt.mp (fun g => gv (Or.inl g))
      · subst e9
        refine deeper_no (by rw [gI_sA, R.2.2.2.2.2.1]; exact h8') (sk (by rw [gI_sI]; decide) ?_)
        exact hX _ rfl
    · exact hg
    ·
      have gv := (I.2.1.2.1 h h8 c hg).2 a ha hl
      have cv := (I.2.1.2.1 h h8 c hg).1
      have h7 : ¬ gI (sA τ 13 (upd (gA τ 13) t 1)) 7 = 8 := by rw [gI_sA, R.2.2.2.2.2.1]; exact h8'
      obtain ⟨m, hm⟩ := deeper_to h7
      have R2 := R.tw (T13 (v := 1))
      have Rl2 := R2.rl hn (k_ne hk (by decide))
      generalize hτ : sA τ 13 (upd (gA τ 13) t 1) = τ1 at *
      obtain ⟨⟨l1, l2, l3, l4, l5, l6⟩, l7, l8, l9⟩ := Rl2
      have i2 : ∀ j, j ≠ 7 → j ≠ 12 → gI (sI (sI τ1 7 (gI τ1 7 + 1)) 12 m) j = gI τ1 j := fun j j1 j2 => by rw [gI_s j2, gI_s j1]
      refine env_child (h' := c) (τ2 := sI (sI τ1 7 (gI τ1 7 + 1)) 12 m) (σ' := EN1 σ) hV q I hd ht hdp hn R e6 (EN1_In I h8') ⟨by rw [EN1_I (by decide) (by decide)]; exact C.1, by rw [EN1_I (by decide) (by decide)]; exact C.2⟩ ⟨⟨?_, ?_, ?_, ?_, l5, l6⟩, ?_, ?_, ?_⟩ cv gv ?_ R2.hf R2.2.2.1 R2.2.2.2.1 rfl (k_ne hk (by decide)) EN1_Pg (fun X hX => st X ?_) (fun s => sI s 6 (gI s 6 - 1)) (fun s f => EN1_back f) (fun τ' kk k8 k0 k11 X hX => ?_) (fun r s hq s' es => by rw [es]; exact hq)
      · exact ((EN1_Lk l1).ri (by decide)).ri (by decide)
      · exact EN1_En l2
      · rw [i2 9 (by decide) (by decide), EN1_I (by decide) (by decide)]; exact l3
      · rw [i2 10 (by decide) (by decide)]; exact l4
      · rw [i2 8 (by decide) (by decide)]; exact l7
      · rw [i2 6 (by decide) (by decide), EN1_I (by decide) (by decide)]; exact l8
      · rw [gI_s (by decide), gI_sI, EN1_6, l9]
      · have kA : Kp τ τ1 t := by rw [← hτ]; exact Kp_A
        exact kA
      · refine sk p1 ⟨p2, sk (by rw [p3, w1]; exact hl) (sk (by decide) ⟨p2, tk (by rw [p3, w2]; exact hb) (sk (by decide) ⟨x1, tk ?_ ⟨e3, fun s9 e9 => ?_⟩⟩)⟩)⟩
        · rw [x2, v1]
          exact Int32.not_lt.mp (fun g => gv (Or.inl g))
        · rw [hτ] at e9
          rw [e9]
          refine hm _ (tk (by rw [i2 10 (by decide) (by decide)]; exact l4) ⟨x1, x1, ?_⟩)
          have a7 : gA τ1 7 = gA τ 7 := by rw [← hτ]; exact gA_s (by decide)
          have a8 : gA τ1 8 = gA τ 8 := by rw [← hτ]; exact gA_s (by decide)
          show wp_MO_enter (gA τ1 7 _) (gA τ1 8 _) _ _
          rw [x2, a7, a8, v1, v2]
          exact hX
      · refine st_10 k8 ht k11 hn (by rw [k0]; exact hk) (pm_end ht ?_ hX)
        rw [kk.1 13 (by omega) (by omega) t (by omega)]
        show ¬ gA τ1 13 t ≤ 0
        rw [← hτ, s13]
        decide
    ·
      refine q.fin R (Tw.rf _ _) e6 I C ht (I.2.1.2.2.2.2.1 h h8 _).1 (fun X hX => st X ?_)
      refine sk p1 ⟨p2, sk (by rw [p3, w1]; exact hl) (sk (by decide) ⟨p2, sk (by rw [p3, w2]; exact hb) (tk rfl ⟨x1, ?_⟩)⟩)⟩
      rw [x2, v4 hl hb]
      exact hX
end ENV
