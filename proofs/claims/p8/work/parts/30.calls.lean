def JJ (σ τ : CS) : Prop := PW σ ∧ EI σ ∧ Lk σ τ ∧ En σ τ ∧ (gI σ 5 = 0 ∧ gI σ 6 = 0 ∧ gI σ 7 = -1) ∧ (∀ a, vp_in a 4 → gA σ 7 a.toNatClampNeg = 0) ∧ (0 ≤ (gI σ 8).toInt ∧ (gI σ 8).toInt ≤ 48)
theorem JJ.th {σ τ : CS} {c : Int32} (j : JJ σ τ) : JJ σ (sI τ 5 c) := ⟨j.1, j.2.1, j.2.2.1.ri (by decide), j.2.2.2.1, j.2.2.2.2⟩
theorem vz0 : vp_z 0 := rfl
theorem vz1 : vp_z 1 := rfl
def NdS (σ : CS) (p : Int32) : Prop := ¬ p < 0 ∧ ¬ gI σ 8 ≤ p
theorem NdS.inn {σ τ : CS} {p : Int32} (h : NdS σ p) (j : JJ σ τ) : vp_in p 48 := by
  refine vin h.1 ?_
  have h2 := h.2
  rw [Int32.le_iff_toInt_le] at h2
  have := j.2.2.2.2.2.2.2
  omega
theorem has_or {p : Int32} {σ : CS} {X : Int32 → CS → Prop} (h1 : NdS σ p → X 1 σ) (h0 : ¬ NdS σ p → X 0 σ) : wp_PR_has p σ X :=
  ⟨fun g => ⟨vz0, h0 (fun y => y.1 g)⟩, fun g1 => ⟨fun g => ⟨vz0, h0 (fun y => y.2 g)⟩, fun g2 => ⟨vz1, h1 ⟨g1, g2⟩⟩⟩⟩
theorem isNode_or {p : Int32} {σ τ : CS} {X : Int32 → CS → Prop} (e : gI τ 0 = gI σ 8) (b : 0 ≤ (gI σ 8).toInt ∧ (gI σ 8).toInt ≤ 48) (h1 : NdS σ p → X 1 τ) (h0 : ¬ NdS σ p → X 0 τ) : wp_MO_isNode p τ X := by
  have k : gI τ 0 - 1 < p ↔ gI σ 8 ≤ p := by
    rw [e, Int32.lt_iff_toInt_lt, Int32.le_iff_toInt_le, Int32.toInt_sub, show (1 : Int32).toInt = 1 from rfl, Int.bmod_eq_of_le (by omega) (by omega)]
    omega
  refine ⟨fun g => ⟨vz0, h0 (fun y => y.1 g)⟩, fun g1 => ⟨fun g => ⟨vz0, h0 (fun y => y.2 (k.mp g))⟩, fun g2 => ⟨vz1, h1 ⟨g1, fun g => g2 (k.mpr g)⟩⟩⟩⟩
def Bl (p n : Int32) : Prop := ¬ p < 0 ∧ ¬ n ≤ p
theorem below_or {p n : Int32} {σ : CS} {X : Int32 → CS → Prop} (h1 : Bl p n → X 1 σ) (h0 : ¬ Bl p n → X 0 σ) : wp_NF_isBelow p n σ X :=
  ⟨fun g => h0 (fun y => y.1 g), fun g1 => ⟨fun g => h0 (fun y => y.2 g), fun g2 => h1 ⟨g1, g2⟩⟩⟩
theorem lt_le {a b c : Int32} (h : b.toInt = c.toInt + 1) : c < a ↔ b ≤ a := by
  rw [Int32.lt_iff_toInt_lt, Int32.le_iff_toInt_le]
  omega
theorem within_or {p b n : Int32} {σ : CS} {X : Int32 → CS → Prop} (hb : n.toInt = b.toInt + 1) (h1 : Bl p n → X 1 σ) (h0 : ¬ Bl p n → X 0 σ) : wp_MO_within p 0 b σ X :=
  ⟨fun g => h0 (fun y => y.1 g), fun g1 => ⟨fun g => h0 (fun y => y.2 ((lt_le hb).mp g)), fun g2 => h1 ⟨g1, fun g => g2 ((lt_le hb).mpr g)⟩⟩⟩
theorem Bl.inn {p n : Int32} {N : Nat} (h : Bl p n) (e : n.toInt = N) : vp_in p N := by
  refine vin h.1 ?_
  have h2 := h.2
  rw [Int32.le_iff_toInt_le] at h2
  omega
theorem wp_leT {c : Int32} {τ : CS} {A B : Prop} (h : ¬ c ≤ 0) (hB : B) : ((gI (sI τ 5 c) 5) ≤ 0 → A) ∧ (¬ (gI (sI τ 5 c) 5) ≤ 0 → B) := sk (by rw [gI_sI]; exact h) hB
theorem wp_leF {τ : CS} {A B : Prop} (hA : A) : ((gI (sI τ 5 0) 5) ≤ 0 → A) ∧ (¬ (gI (sI τ 5 0) 5) ≤ 0 → B) := tk (by rw [gI_sI]; decide) hA
section CALLS
variable {σ τ : CS}
theorem cq_variable {p : Int32} {f : Nat → UInt64} {QQ : Int32 → CS → (Nat → UInt64) → Prop} (j : JJ σ τ) (hq : ∀ r s f, (∀ Z : UInt64 → CS → Prop, (∀ r' τ', JJ s τ' → gI τ' 5 = r → (r = 0 → f 0 = r') → Z r' τ') → wp_MO_variable p τ Z) → QQ r s f) : wp_LW_variable p σ f QQ := by
  unfold wp_LW_variable wp_NF_variable
  refine below_or (fun hb => sk (by decide) ⟨hb.inn rfl, ?_⟩) (fun hb => tk rfl ⟨rfl, ?_⟩)
  · refine hq _ _ _ (fun Z hz => within_or rfl (fun _ => sk (by decide) (fun s4 e4 => ?_)) (fun h => absurd hb h))
    subst e4
    refine wp_leF ⟨hb.inn rfl, hz _ _ j.th gI_sI (fun _ => ?_)⟩
    show vf_upd f 0 _ 0 = gD τ 0 _
    rw [vfu_self, j.2.2.1.2.2.1]
  · refine hq _ _ _ (fun Z hz => within_or rfl (fun h => absurd h hb) (fun _ => tk rfl (fun s4 e4 => ?_)))
    subst e4
    exact wp_leT (by decide) (hz _ _ j.th gI_sI (fun h => absurd h (by decide)))
theorem cq_element {p1 p2 : Int32} {f : Nat → UInt64} {QQ : Int32 → CS → (Nat → UInt64) → Prop} (j : JJ σ τ) (hq : ∀ r s f, (∀ Z : UInt64 → CS → Prop, (∀ r' τ', JJ s τ' → gI τ' 5 = r → (r = 0 → f 0 = r') → Z r' τ') → wp_MO_element p1 p2 τ Z) → QQ r s f) : wp_LW_element p1 p2 σ f QQ := by
  have bd := j.2.1.2.2.2.2.2
  obtain ⟨-, i1, i2, i3, i4⟩ := j.2.2.1.2.1
  have sm : ∀ x : Int32, FP.Core.Small53 x.toInt64 := fun x => ⟨by rw [Int32.toInt_toInt64]; have := x.le_toInt; omega, by rw [Int32.toInt_toInt64]; have := x.toInt_lt; omega⟩
  have pt : ∀ Y : Int32 → CS → Prop, (Hd (gI σ 9) (gI σ 10) (gI σ 11) (gI σ 12) p1.toInt64 p2.toInt64 → Y (pl (gI σ 9) (gI σ 11) p1.toInt64 p2.toInt64) τ) → (¬ Hd (gI σ 9) (gI σ 10) (gI σ 11) (gI σ 12) p1.toInt64 p2.toInt64 → Y (-1) τ) → wp_MO_place (FP.i2d p1) (FP.i2d p2) τ Y := fun Y y1 y0 => by
    have e1 : FP.i2d p1 = FP.l2d p1.toInt64 := FP.Core.i2d_l2d p1
    have e2 : FP.i2d p2 = FP.l2d p2.toInt64 := FP.Core.i2d_l2d p2
    rw [e1, e2]
    exact place_to (sm p1) (sm p2) (by rw [i1, i2, i3, i4]; exact bd) (by rw [i1, i2, i3, i4]; exact y1) (by rw [i1, i2, i3, i4]; exact y0)
  unfold wp_LW_element wp_NF_element
  refine holds_to (fun h1 => sk (by decide) ?_) (fun h0 => tk rfl ⟨rfl, ?_⟩)
  · obtain ⟨pin, p0⟩ := pl_in h1 bd
    refine ⟨pin, hq _ _ _ (fun Z hz => pt _ (fun _ => tk p0 (fun s4 e4 => ?_)) (fun h => absurd h1 h))⟩
    subst e4
    refine wp_leF ⟨pin, hz _ _ j.th gI_sI (fun _ => ?_)⟩
    show vf_upd f 0 _ 0 = gD τ 1 _
    rw [vfu_self, j.2.2.1.2.2.2]
  · refine hq _ _ _ (fun Z hz => pt _ (fun h => absurd h h0) (fun _ => sk (by decide) (fun s4 e4 => ?_)))
    subst e4
    exact wp_leT (by decide) (hz _ _ j.th gI_sI (fun h => absurd h (by decide)))
theorem cq_node {p1 p2 : Int32} {f : Nat → Int64} {QQ : Int32 → CS → (Nat → Int64) → Prop} (j : JJ σ τ) (hq : ∀ r s f, (∀ Z : Int32 → CS → Prop, (∀ r' τ', JJ s τ' → gI τ' 5 = r → (r = 0 → f 0 = r'.toInt64) → Z r' τ') → wp_MO_node p1 p2 τ Z) → QQ r s f) : wp_LW_node p1 p2 σ f QQ := by
  have e0 := j.2.2.1.2.1.1
  have b0 := j.2.2.2.2.2.2
  obtain ⟨a0, a1, a2, a3, -⟩ := j.2.2.1.1
  unfold wp_LW_node wp_NF_node
  refine below_or (fun hb => sk (by decide) (has_or (fun hn => sk (by decide) ?_) (fun hn => tk rfl (Or.inr ⟨rfl, ?_⟩)))) (fun hb => tk rfl (Or.inl ⟨rfl, ?_⟩))
  · have pin := hn.inn j
    have st : ∀ {Y : Int32 → CS → Prop}, ((p2 = 0 → Y (gA (sI τ 5 0) 0 p1.toNatClampNeg) (sI τ 5 0)) ∧ (¬ p2 = 0 → ((p2 = 1 → Y (gA (sI τ 5 0) 1 p1.toNatClampNeg) (sI τ 5 0)) ∧ (¬ p2 = 1 → ((p2 = 2 → Y (gA (sI τ 5 0) 2 p1.toNatClampNeg) (sI τ 5 0)) ∧ (¬ p2 = 2 → Y (gA (sI τ 5 0) 3 p1.toNatClampNeg) (sI τ 5 0))))))) → wp_MO_node p1 p2 τ Y := fun {Y} y => within_or rfl (fun _ => sk (by decide) (isNode_or e0 b0 (fun _ => sk (by decide) (fun s7 e7 => by
      subst e7
      exact ⟨fun c => ⟨pin, y.1 c⟩, fun c0 => ⟨fun c => ⟨pin, (y.2 c0).1 c⟩, fun c1 => ⟨fun c => ⟨pin, ((y.2 c0).2 c1).1 c⟩, fun c2 => ⟨pin, ((y.2 c0).2 c1).2 c2⟩⟩⟩⟩)) (fun h => absurd hn h))) (fun h => absurd hb h)
    have go : ∀ {x : Int32} {k : Nat} {Z : Int32 → CS → Prop}, (∀ r' τ', JJ σ τ' → gI τ' 5 = 0 → ((0 : Int32) = 0 → vp_updL f 0 x.toInt64 0 = r'.toInt64) → Z r' τ') → gA τ k p1.toNatClampNeg = x → Z (gA (sI τ 5 0) k p1.toNatClampNeg) (sI τ 5 0) := fun {x k Z} hz e => hz _ _ j.th gI_sI (fun _ => by
      show x.toInt64 = (gA τ k p1.toNatClampNeg).toInt64
      rw [e])
    refine ⟨fun c => ⟨pin, hq _ _ _ (fun Z hz => st (tk c (go hz (by rw [a0]))))⟩, fun c0 => ⟨fun c => ⟨pin, hq _ _ _ (fun Z hz => st (sk c0 (tk c (go hz (by rw [a1])))))⟩, fun c1 => ⟨fun c => ⟨pin, hq _ _ _ (fun Z hz => st (sk c0 (sk c1 (tk c (go hz (by rw [a2]))))))⟩, fun c2 => ⟨pin, hq _ _ _ (fun Z hz => st (sk c0 (sk c1 (sk c2 (go hz (by rw [a3]))))))⟩⟩⟩⟩
  · refine hq _ _ _ (fun Z hz => within_or rfl (fun _ => sk (by decide) (isNode_or e0 b0 (fun h => absurd h hn) (fun _ => tk rfl (fun s4 e4 => ?_)))) (fun h => absurd hb h))
    subst e4
    exact hz _ _ j.th gI_sI (fun h => absurd h (by decide))
  · refine hq _ _ _ (fun Z hz => within_or rfl (fun h => absurd h hb) (fun _ => tk rfl (fun s4 e4 => ?_)))
    subst e4
    exact hz _ _ j.th gI_sI (fun h => absurd h (by decide))
theorem cq_count {p : Int32} {f : Nat → Int64} {QQ : Int32 → CS → (Nat → Int64) → Prop} (j : JJ σ τ) (hq : ∀ r s f, (∀ Z : Int32 → CS → Prop, (∀ r' τ', JJ s τ' → Z r' τ') → wp_MO_count p τ Z) → QQ r s f) : wp_LW_count p σ f QQ := by
  have cm : ∀ r f, QQ r σ f := fun r f => by
    refine hq r σ f (fun Z hz => within_or (n := 7) rfl (fun _ => sk (by decide) (fun s4 e4 => ?_)) (fun _ => tk rfl (fun s4 e4 => ?_)))
    · subst e4
      exact ⟨fun _ => hz _ _ j.th, fun _ => ⟨fun _ => hz _ _ j.th, fun _ => ⟨fun _ => hz _ _ j.th, fun _ => ⟨fun _ => hz _ _ j.th, fun _ => ⟨fun _ => hz _ _ j.th, fun _ => ⟨fun _ => hz _ _ j.th, fun _ => hz _ _ j.th⟩⟩⟩⟩⟩⟩
    · subst e4
      exact hz _ _ j.th
  exact ⟨fun _ => cm _ _, fun _ => ⟨fun _ => cm _ _, fun _ => ⟨fun _ => cm _ _, fun _ => ⟨fun _ => cm _ _, fun _ => ⟨fun _ => cm _ _, fun _ => ⟨fun _ => cm _ _, fun _ => ⟨fun _ => cm _ _, fun _ => ⟨rfl, cm _ _⟩⟩⟩⟩⟩⟩⟩⟩
theorem upd4 {f : Nat → Int32} : upd (upd (upd (upd f 0 (-1)) 1 (-1)) 2 (-1)) 3 (-1) = fl 4 (-1) f := by
  funext i
  unfold fl
  by_cases e3 : i = 3
  · rw [e3, upd_self, if_pos (by decide)]
  rw [upd_ne e3]
  by_cases e2 : i = 2
  · rw [e2, upd_self, if_pos (by decide)]
  rw [upd_ne e2]
  by_cases e1 : i = 1
  · rw [e1, upd_self, if_pos (by decide)]
  rw [upd_ne e1]
  by_cases e0 : i = 0
  · rw [e0, upd_self, if_pos (by decide)]
  rw [upd_ne e0, if_neg (by omega)]
theorem clear4 {x1 : Int32} {Q : Int32 → CS → Prop} (hQ : Q x1 (sA (sA (sA (sA τ 4 (upd (gA τ 4) 0 (-1))) 4 (upd (gA (sA τ 4 (upd (gA τ 4) 0 (-1))) 4) 1 (-1))) 4 (upd (gA (sA (sA τ 4 (upd (gA τ 4) 0 (-1))) 4 (upd (gA (sA τ 4 (upd (gA τ 4) 0 (-1))) 4) 1 (-1))) 4) 2 (-1))) 4 (upd (gA (sA (sA (sA τ 4 (upd (gA τ 4) 0 (-1))) 4 (upd (gA (sA τ 4 (upd (gA τ 4) 0 (-1))) 4) 1 (-1))) 4 (upd (gA (sA (sA τ 4 (upd (gA τ 4) 0 (-1))) 4 (upd (gA (sA τ 4 (upd (gA τ 4) 0 (-1))) 4) 1 (-1))) 4) 2 (-1))) 4) 3 (-1)))) : ∃ fu, lp_MO_clear_17 Q fu 0 x1 τ := by
  refine ⟨0 + 1 + 1 + 1 + 1 + 1, ?_⟩
  unfold lp_MO_clear_17
  refine sk (by decide) ⟨by unfold vp_in; decide, fun s1 e1 => ?_⟩
  rw [show (0 : Int32).toNatClampNeg = 0 by decide] at e1
  rw [show (0 : Int32) + 1 = 1 by decide]
  unfold lp_MO_clear_17
  refine sk (by decide) ⟨by unfold vp_in; decide, fun s2 e2 => ?_⟩
  rw [show (1 : Int32).toNatClampNeg = 1 by decide] at e2
  rw [show (1 : Int32) + 1 = 2 by decide]
  unfold lp_MO_clear_17
  refine sk (by decide) ⟨by unfold vp_in; decide, fun s3 e3 => ?_⟩
  rw [show (2 : Int32).toNatClampNeg = 2 by decide] at e3
  rw [show (2 : Int32) + 1 = 3 by decide]
  unfold lp_MO_clear_17
  refine sk (by decide) ⟨by unfold vp_in; decide, fun s4 e4 => ?_⟩
  rw [show (3 : Int32).toNatClampNeg = 3 by decide] at e4
  rw [show (3 : Int32) + 1 = 4 by decide]
  unfold lp_MO_clear_17
  refine tk (by decide) ?_
  rw [e4, e3, e2, e1]
  exact hQ
theorem EI_prog {s : CS} (he : EI σ) (i : ∀ j, 9 ≤ j → gI s j = gI σ j) (a : ∀ j, 8 ≤ j → gA s j = gA σ j) (c : ∀ j, gC s j = gC σ j) (d : ∀ j, gD s j = gD σ j) : EI s := by
  obtain ⟨h0, h1, h2, h3, h4, h5⟩ := he
  refine ⟨by rw [c]; exact h0, fun h h9 x hc => ?_, fun k => by rw [d]; exact h2 k, fun k => by rw [d]; exact h3 k, fun h h9 k => by rw [d, d]; exact h4 h h9 k, by rw [i 9 (by omega), i 10 (by omega), i 11 (by omega), i 12 (by omega)]; exact h5⟩
  rw [c] at hc
  obtain ⟨y1, y2⟩ := h1 h h9 x hc
  refine ⟨y1.imp id (fun z => ⟨z.1, by rw [c]; exact z.2⟩), fun b hb hl => ?_⟩
  rw [i (20 + h) (by omega)] at hl
  rw [a (10 + h) (by omega)]
  exact y2 b hb hl
theorem En_prog {s t : CS} (he : En σ τ) (i : ∀ j, 9 ≤ j → gI s j = gI σ j) (a : ∀ j, 8 ≤ j → gA s j = gA σ j) (c : ∀ j, gC s j = gC σ j) (d : ∀ j, gD s j = gD σ j) (a' : ∀ j, 7 ≤ j → gA t j = gA τ j) (d' : ∀ j, gD t j = gD τ j) : En s t := by
  intro h h8 x hc
  rw [c] at hc
  rw [a' 9 (by omega), a' 10 (by omega), a' 7 (by omega), a' 8 (by omega), d', d', i (20 + h) (by omega), i (30 + h) (by omega), a (10 + h) (by omega), d, d]
  exact he h h8 x hc
theorem cq_clear {Z : Int32 → CS → Int32 → CS → Prop} (j : JJ σ τ) (hz : ∀ r s τ', JJ s τ' → Z r s r τ') : wp_NF_clear σ (fun r s => wp_MO_clear τ (fun r' t => Z r s r' t)) := by
  unfold wp_NF_clear
  intro s1 e1 s2 e2 t1 d1 t2 d2
  refine clear4 ?_
  have er : gI t1 0 = gI σ 8 := by rw [d1, gI_s (by decide)]; exact j.2.2.1.2.1.1
  rw [er]
  refine hz _ _ _ ?_
  obtain ⟨⟨a0, a1, a2, a3, a4, a5, a6⟩, ⟨i0, i1, i2, i3, i4⟩, d0, dd1⟩ := j.2.2.1
  have sI' : ∀ k, k ≠ 8 → gI s2 k = gI σ k := fun k hk => by rw [e2, gI_sA, e1, gI_s hk]
  have sA' : ∀ k, k ≠ 4 → gA s2 k = gA σ k := fun k hk => by rw [e2, gA_s hk, e1, gA_sI]
  have sA4 : gA s2 4 = fl 4 (-1) (gA σ 4) := by rw [e2, gA_sA, e1, gA_sI]
  have sD' : ∀ k, gD s2 k = gD σ k := fun k => by rw [e2, gD_sA, e1, gD_sI]
  have sC' : ∀ k, gC s2 k = gC σ k := fun k => by rw [e2, gC_sA, e1, gC_sI]
  have s8 : gI s2 8 = 0 := by rw [e2, gI_sA, e1, gI_sI]
  generalize hT : sA (sA (sA (sA t2 4 (upd (gA t2 4) 0 (-1))) 4 (upd (gA (sA t2 4 (upd (gA t2 4) 0 (-1))) 4) 1 (-1))) 4 (upd (gA (sA (sA t2 4 (upd (gA t2 4) 0 (-1))) 4 (upd (gA (sA t2 4 (upd (gA t2 4) 0 (-1))) 4) 1 (-1))) 4) 2 (-1))) 4 (upd (gA (sA (sA (sA t2 4 (upd (gA t2 4) 0 (-1))) 4 (upd (gA (sA t2 4 (upd (gA t2 4) 0 (-1))) 4) 1 (-1))) 4 (upd (gA (sA (sA t2 4 (upd (gA t2 4) 0 (-1))) 4 (upd (gA (sA t2 4 (upd (gA t2 4) 0 (-1))) 4) 1 (-1))) 4) 2 (-1))) 4) 3 (-1)) = T
  have tA' : ∀ k, k ≠ 4 → gA T k = gA τ k := fun k hk => by rw [← hT, gA_s hk, gA_s hk, gA_s hk, gA_s hk, d2, gA_sI, d1, gA_sI]
  have tA4 : gA T 4 = fl 4 (-1) (gA τ 4) := by rw [← hT, gA_sA, gA_sA, gA_sA, gA_sA, upd4, d2, gA_sI, d1, gA_sI]
  have tI' : ∀ k, k ≠ 0 → k ≠ 5 → gI T k = gI τ k := fun k h0 h5 => by rw [← hT, gI_sA, gI_sA, gI_sA, gI_sA, d2, gI_s h0, d1, gI_s h5]
  have tI0 : gI T 0 = 0 := by rw [← hT, gI_sA, gI_sA, gI_sA, gI_sA, d2, gI_sI]
  have tD' : ∀ k, gD T k = gD τ k := fun k => by rw [← hT, gD_sA, gD_sA, gD_sA, gD_sA, d2, gD_sI, d1, gD_sI]
  refine ⟨⟨fun n hn => ?_, fun p hp => ⟨Or.inl ?_, ?_⟩⟩, EI_prog j.2.1 (fun k hk => sI' k (by omega)) (fun k hk => sA' k (by omega)) sC' sD', ⟨⟨?_, ?_, ?_, ?_, ?_, ?_, ?_⟩, ⟨?_, ?_, ?_, ?_, ?_⟩, ?_, ?_⟩, En_prog j.2.2.2.1 (fun k hk => sI' k (by omega)) (fun k hk => sA' k (by omega)) sC' sD' (fun k hk => tA' k (by omega)) tD', ⟨?_, ?_, ?_⟩, fun a ha => ?_, ?_⟩
  · have := j.1.1 n hn
    unfold nodeOK at this ⊢
    rw [sA' 0 (by decide), sA' 1 (by decide), sA' 2 (by decide), sA' 3 (by decide)]
    exact this
  · rw [sA4]
    unfold fl
    exact if_pos hp
  · rw [sA' 5 (by decide)]; exact (j.1.2 p hp).2
  · rw [tA' 0 (by decide), sA' 0 (by decide)]; exact a0
  · rw [tA' 1 (by decide), sA' 1 (by decide)]; exact a1
  · rw [tA' 2 (by decide), sA' 2 (by decide)]; exact a2
  · rw [tA' 3 (by decide), sA' 3 (by decide)]; exact a3
  · rw [tA4, sA4, a4]
  · rw [tA' 5 (by decide), sA' 5 (by decide)]; exact a5
  · rw [tA' 6 (by decide), sA' 6 (by decide)]; exact a6
  · rw [tI0, s8]
  · rw [tI' 1 (by decide) (by decide), sI' 9 (by decide)]; exact i1
  · rw [tI' 2 (by decide) (by decide), sI' 10 (by decide)]; exact i2
  · rw [tI' 3 (by decide) (by decide), sI' 11 (by decide)]; exact i3
  · rw [tI' 4 (by decide) (by decide), sI' 12 (by decide)]; exact i4
  · rw [tD', sD']; exact d0
  · rw [tD', sD']; exact dd1
  · rw [sI' 5 (by decide)]; exact j.2.2.2.2.1.1
  · rw [sI' 6 (by decide)]; exact j.2.2.2.2.1.2.1
  · rw [sI' 7 (by decide)]; exact j.2.2.2.2.1.2.2
  · rw [sA' 7 (by decide)]; exact j.2.2.2.2.2.1 a ha
  · rw [s8]; decide
end CALLS
