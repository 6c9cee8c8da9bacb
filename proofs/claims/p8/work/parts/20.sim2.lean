theorem and1 (v : Int32) : v &&& 1 = 0 ∨ v &&& 1 = 1 := by
  have h : (v.toBitVec &&& 1#32).toNat = v.toBitVec.toNat % 2 := by
    rw [BitVec.toNat_and]
    exact Nat.and_one_is_mod _
  rcases Nat.mod_two_eq_zero_or_one v.toBitVec.toNat with e | e
  · refine Or.inl (Int32.toBitVec_inj.mp (BitVec.eq_of_toNat_eq ?_))
    show (v.toBitVec &&& 1#32).toNat = 0
    rw [h, e]
  · refine Or.inr (Int32.toBitVec_inj.mp (BitVec.eq_of_toNat_eq ?_))
    show (v.toBitVec &&& 1#32).toNat = 1
    rw [h, e]
theorem and1_ne {v : Int32} (h : ¬ v &&& 1 = 0) : v &&& 1 = 1 := (and1 v).resolve_left h
theorem and1_z {v : Int32} (h : v &&& 1 = 0) : ¬ v &&& 1 = 1 := by rw [h]; decide
def Dw (f n P x4 : Int32) (X : CS → Prop) (σ : CS) : Prop := (wp_MO_deeper  σ (fun s7 => (((gI s7 10) ≤ 0 → (∀ s9 : CS, s9 = sI s7 6 ((gI s7 6) + 1) → (∀ s10 : CS, s10 = sI s9 11 ((gI s9 11) + 1) → (vp_in P 4 ∧ (vp_in (gI s9 6) 10 ∧ (∀ s11 : CS, s11 = sA s10 9 (upd (gA s10 9) ((gI s9 6).toNatClampNeg) (gA s10 5 P.toNatClampNeg)) → (vp_in P 4 ∧ (vp_in (gI s9 6) 10 ∧ (∀ s12 : CS, s12 = sA s11 10 (upd (gA s11 10) ((gI s9 6).toNatClampNeg) (gA s11 6 P.toNatClampNeg)) → (∃ fu : Nat, lp_MO_call_284 f n X fu 0 (gI s9 6) x4 P s12)))))))))) ∧ (¬ (gI s7 10) ≤ 0 → X s7))))
def PT (τ : CS) (i : Nat) (w : UInt64) (g e : Int32) : CS :=
  sD (sA (sA (sD τ 2 (vf_upd (gD τ 2) i w)) 7 (upd (gA (sD τ 2 (vf_upd (gD τ 2) i w)) 7) i g)) 8 (upd (gA (sA (sD τ 2 (vf_upd (gD τ 2) i w)) 7 (upd (gA (sD τ 2 (vf_upd (gD τ 2) i w)) 7) i g)) 8) i e)) 3 (vf_upd (gD (sA (sA (sD τ 2 (vf_upd (gD τ 2) i w)) 7 (upd (gA (sD τ 2 (vf_upd (gD τ 2) i w)) 7) i g)) 8 (upd (gA (sA (sD τ 2 (vf_upd (gD τ 2) i w)) 7 (upd (gA (sD τ 2 (vf_upd (gD τ 2) i w)) 7) i g)) 8) i e)) 3) i FP.dconst0)
theorem PT_I {τ : CS} {i : Nat} {w : UInt64} {g e : Int32} {j : Nat} : gI (PT τ i w g e) j = gI τ j := rfl
theorem PT_X {τ : CS} {i : Nat} {w : UInt64} {g e : Int32} {j : Nat} : gX (PT τ i w g e) j = gX τ j := rfl
theorem PT_A {τ : CS} {i : Nat} {w : UInt64} {g e : Int32} {j : Nat} (h7 : j ≠ 7) (h8 : j ≠ 8) : gA (PT τ i w g e) j = gA τ j := by
  unfold PT
  rw [gA_sD, gA_s h8, gA_s h7, gA_sD]
theorem PT_D {τ : CS} {i : Nat} {w : UInt64} {g e : Int32} {j : Nat} (h2 : j ≠ 2) (h3 : j ≠ 3) : gD (PT τ i w g e) j = gD τ j := by
  unfold PT
  rw [gD_s h3, gD_sA, gD_sA, gD_s h2]
theorem PT_7 {τ : CS} {i : Nat} {w : UInt64} {g e : Int32} : gA (PT τ i w g e) 7 = upd (gA τ 7) i g := by
  unfold PT
  rw [gA_sD, gA_s (by decide), gA_sA, gA_sD]
theorem PT_8 {τ : CS} {i : Nat} {w : UInt64} {g e : Int32} : gA (PT τ i w g e) 8 = upd (gA τ 8) i e := by
  unfold PT
  rw [gA_sD, gA_sA, gA_s (by decide), gA_sD]
theorem PT_2 {τ : CS} {i : Nat} {w : UInt64} {g e : Int32} : gD (PT τ i w g e) 2 = vf_upd (gD τ 2) i w := by
  unfold PT
  rw [gD_s (by decide), gD_sA, gD_sA, gD_sD]
theorem PT_3 {τ : CS} {i : Nat} {w : UInt64} {g e : Int32} : gD (PT τ i w g e) 3 = vf_upd (gD τ 3) i FP.dconst0 := by
  unfold PT
  rw [gD_sD, gD_sA, gD_sA, gD_s (by decide)]
def QA (τ : CS) (g : Nat) (m c tk' nm : Int32) : CS := sA (sA (sI (sI (sI (sI τ 7 (gI τ 7 + 1)) 12 m) 6 (en g)) 11 c) 9 (upd (gA τ 9) (g + 1) tk')) 10 (upd (gA τ 10) (g + 1) nm)
def QB (τ : CS) (t : Nat) (n : Int32) (g : Nat) : CS := PT τ (2 * (g + 1)) (gD τ 4 t) (gA τ 2 n.toNatClampNeg) (gA τ 12 t)
def QC (τ : CS) (t : Nat) (n : Int32) (g : Nat) : CS := PT τ (2 * (g + 1) + 1) (gD τ 5 t) (gA τ 3 n.toNatClampNeg) (gA τ 12 t)
def QD (τ : CS) (t : Nat) : CS := sA τ 13 (upd (gA τ 13) t 9)
def QT (τ : CS) (t : Nat) (n : Int32) (g : Nat) (m c tk' nm : Int32) : CS := QD (QC (QB (QA τ g m c tk' nm) t n g) t n g) t
theorem in4 : vp_in 0 2 := by unfold vp_in; decide
theorem in4' : vp_in 1 2 := by unfold vp_in; decide
theorem Dw_to {τ : CS} {t : Nat} {n P x4 : Int32} {g : Nat} (ht : t < 80) (hn : vp_in n 48) (hP : vp_in P 4) (hg : g < 8) (h7 : ¬ gI τ 7 = 8) (h10 : gI τ 10 = 0) (h6 : gI τ 6 + 1 = en g) : ∃ m c, ∀ X, wp_MO_enter (gA τ 4 P.toNatClampNeg) (en g) (QT τ t n g m c (gA τ 5 P.toNatClampNeg) (gA τ 6 P.toNatClampNeg)) X → Dw (Int32.ofNat t) n P x4 X τ := by
  obtain ⟨m, hm⟩ := deeper_to h7
  have e2 : (Int32.ofNat t).toNatClampNeg = t := t_nat (by omega)
  have e3 : vp_in (Int32.ofNat t) 310 := t_in (by omega) (by omega)
  obtain ⟨p1, p2, p3, p4⟩ := en_pos hg
  obtain ⟨x1, x2, -, -⟩ := ix hg in4
  obtain ⟨y1, y2, -, -⟩ := ix hg in4'
  rw [show (0 : Int32).toNatClampNeg = 0 by decide, Nat.add_zero] at x2
  rw [show (1 : Int32).toNatClampNeg = 1 by decide] at y2
  refine ⟨m, gI τ 11 + 1, fun X hX => ?_⟩
  unfold Dw
  refine hm _ (tk ?_ (fun s9 e9 => ?_))
  · rw [gI_s (by decide), gI_s (by decide), h10]; decide
  · have g9 : gI s9 6 = en g := by rw [e9, gI_sI, gI_s (by decide), gI_s (by decide), h6]
    have g11 : gI s9 11 = gI τ 11 := by rw [e9, gI_s (by decide), gI_s (by decide), gI_s (by decide)]
    rw [gI_s (by decide), gI_s (by decide), h6] at e9
    simp only [g9, g11, p3]
    refine fun s10 e10 => ⟨hP, p2, fun s11 e11 => ⟨hP, p2, fun s12 e12 => ⟨0 + 1 + 1 + 1, ?_⟩⟩⟩
    have Z1 : s12 = QA τ g m (gI τ 11 + 1) (gA τ 5 P.toNatClampNeg) (gA τ 6 P.toNatClampNeg) := by
      unfold QA
      subst e12 e11 e10 e9
      rfl
    clear e12 e11 e10 e9
    unfold lp_MO_call_284
    refine sk (by decide) (tk rfl ?_)
    simp only [x2, e2]
    refine ⟨e3, x1, fun s26 e26 => tk trivial ⟨hn, x1, fun s31 e31 => ⟨e3, x1, fun s32 e32 => ⟨x1, fun s33 e33 => ?_⟩⟩⟩⟩
    have Z2 : s33 = QB s12 t n g := by
      unfold QB PT
      rw [e33, e32, e31, e26, gA_s (j := 12) (k := 7) (by decide)]
      rfl
    clear e33 e32 e31 e26
    unfold lp_MO_call_284
    rw [show (0 : Int32) + 1 = 1 by decide]
    refine sk (by decide) (sk (by decide) ?_)
    simp only [y2, e2]
    refine ⟨e3, y1, fun s18 e18 => sk (by decide) ⟨hn, y1, fun s20 e20 => ⟨e3, y1, fun s21 e21 => ⟨y1, fun s22 e22 => ?_⟩⟩⟩⟩
    have Z3 : s22 = QC s33 t n g := by
      unfold QC PT
      rw [e22, e21, e20, e18, gA_s (j := 12) (k := 7) (by decide)]
      rfl
    clear e22 e21 e20 e18
    unfold lp_MO_call_284
    rw [show (1 : Int32) + 1 = 2 by decide]
    refine tk (by decide) ⟨e3, fun s14 e14 => ⟨hP, ?_⟩⟩
    rw [e2] at e14
    have Z4 : s14 = QT τ t n g m (gI τ 11 + 1) (gA τ 5 P.toNatClampNeg) (gA τ 6 P.toNatClampNeg) := by
      unfold QT QD
      rw [e14, Z3, Z2, Z1]
    have a4 : gA s14 4 = gA τ 4 := by
      rw [Z4]
      unfold QT QD QC QB QA
      rw [gA_s (by decide), PT_A (by decide) (by decide), PT_A (by decide) (by decide), gA_s (by decide), gA_s (by decide)]
      rfl
    rw [a4, Z4]
    exact hX
theorem QA_I {τ : CS} {g : Nat} {m c tk' nm : Int32} {j : Nat} (h7 : j ≠ 7) (h12 : j ≠ 12) (h6 : j ≠ 6) (h11 : j ≠ 11) : gI (QA τ g m c tk' nm) j = gI τ j := by
  unfold QA
  rw [gI_sA, gI_sA, gI_s h11, gI_s h6, gI_s h12, gI_s h7]
theorem QA_A {τ : CS} {g : Nat} {m c tk' nm : Int32} {j : Nat} (h9 : j ≠ 9) (h10 : j ≠ 10) : gA (QA τ g m c tk' nm) j = gA τ j := by
  unfold QA
  rw [gA_s h10, gA_s h9]
  rfl
section QT
variable {τ : CS} {t : Nat} {n : Int32} {g : Nat} {m c tk' nm : Int32}
theorem QT_I {j : Nat} (h7 : j ≠ 7) (h12 : j ≠ 12) (h6 : j ≠ 6) (h11 : j ≠ 11) : gI (QT τ t n g m c tk' nm) j = gI τ j := by
  unfold QT QD QC QB
  rw [gI_sA, PT_I, PT_I, QA_I h7 h12 h6 h11]
theorem QT_I7 : gI (QT τ t n g m c tk' nm) 7 = gI τ 7 + 1 := by
  unfold QT QD QC QB QA
  rw [gI_sA, PT_I, PT_I, gI_sA, gI_sA, gI_s (by decide), gI_s (by decide), gI_s (by decide), gI_sI]
theorem QT_I6 : gI (QT τ t n g m c tk' nm) 6 = en g := by
  unfold QT QD QC QB QA
  rw [gI_sA, PT_I, PT_I, gI_sA, gI_sA, gI_s (by decide), gI_sI]
theorem QT_A {j : Nat} (h7 : j ≠ 7) (h8 : j ≠ 8) (h9 : j ≠ 9) (h10 : j ≠ 10) (h13 : j ≠ 13) : gA (QT τ t n g m c tk' nm) j = gA τ j := by
  unfold QT QD QC QB
  rw [gA_s h13, PT_A h7 h8, PT_A h7 h8, QA_A h9 h10]
theorem QT_A9 : gA (QT τ t n g m c tk' nm) 9 = upd (gA τ 9) (g + 1) tk' := by
  unfold QT QD QC QB QA
  rw [gA_s (by decide), PT_A (by decide) (by decide), PT_A (by decide) (by decide), gA_s (by decide), gA_sA]
theorem QT_A10 : gA (QT τ t n g m c tk' nm) 10 = upd (gA τ 10) (g + 1) nm := by
  unfold QT QD QC QB QA
  rw [gA_s (by decide), PT_A (by decide) (by decide), PT_A (by decide) (by decide), gA_sA]
theorem QT_A7 : gA (QT τ t n g m c tk' nm) 7 = upd (upd (gA τ 7) (2 * (g + 1)) (gA τ 2 n.toNatClampNeg)) (2 * (g + 1) + 1) (gA τ 3 n.toNatClampNeg) := by
  unfold QT QD QC
  rw [gA_s (by decide), PT_7]
  unfold QB
  rw [PT_7, PT_A (by decide) (by decide), QA_A (by decide) (by decide), QA_A (by decide) (by decide), QA_A (by decide) (by decide)]
theorem QT_A8 : gA (QT τ t n g m c tk' nm) 8 = upd (upd (gA τ 8) (2 * (g + 1)) (gA τ 12 t)) (2 * (g + 1) + 1) (gA τ 12 t) := by
  unfold QT QD QC
  rw [gA_s (by decide), PT_8]
  unfold QB
  rw [PT_8, PT_A (by decide) (by decide), QA_A (by decide) (by decide), QA_A (by decide) (by decide)]
theorem QT_A13 : gA (QT τ t n g m c tk' nm) 13 t = 9 := by
  unfold QT QD
  rw [gA_sA, upd_self]
theorem QT_A13' {f : Nat} (h : f ≠ t) : gA (QT τ t n g m c tk' nm) 13 f = gA τ 13 f := by
  unfold QT QD QC QB
  rw [gA_sA, upd_ne h, PT_A (by decide) (by decide), PT_A (by decide) (by decide), QA_A (by decide) (by decide)]
theorem QT_D {j : Nat} (h2 : j ≠ 2) (h3 : j ≠ 3) : gD (QT τ t n g m c tk' nm) j = gD τ j := by
  unfold QT QD QC QB
  rw [gD_sA, PT_D h2 h3, PT_D h2 h3]
  rfl
theorem QT_D2 : gD (QT τ t n g m c tk' nm) 2 = vf_upd (vf_upd (gD τ 2) (2 * (g + 1)) (gD τ 4 t)) (2 * (g + 1) + 1) (gD τ 5 t) := by
  unfold QT QD QC
  rw [gD_sA, PT_2]
  unfold QB
  rw [PT_2, PT_D (by decide) (by decide)]
  rfl
theorem QT_D3 : gD (QT τ t n g m c tk' nm) 3 = vf_upd (vf_upd (gD τ 3) (2 * (g + 1)) FP.dconst0) (2 * (g + 1) + 1) FP.dconst0 := by
  unfold QT QD QC
  rw [gD_sA, PT_3]
  unfold QB
  rw [PT_3]
  rfl
theorem QT_K : Kp τ (QT τ t n g m c tk' nm) t := by
  refine ⟨fun j h1 h2 f hf => ?_, fun j h1 h2 f hf => ?_⟩
  · by_cases e : j = 13
    · subst e
      exact QT_A13' (by omega)
    · rw [QT_A (by omega) (by omega) (by omega) (by omega) e]
  · rw [QT_D (by omega) (by omega)]
end QT
section TAIL
variable {V : VT} {d : Nat} {σ τ τ3 : CS} {t : Nat} {n : Int32} {h : Nat} {d0 dp : Int32} {Q : UInt64 → CS → Prop}
theorem m_tail (hV : VS V d) (hn : vp_in n 48) {P x4 : Int32} {f1 f2 : UInt64} (hP4 : vp_in P 4) (hh : hv σ h) (hdp : dp = Int32.ofNat (t + 1)) (hd : t + d = 80) (ht : t < 80) (I : In σ) (C : Cm σ) (R : Rdy σ τ t n h d0) (e6 : gI σ 6 = d0) (T : Tw τ τ3 t) (hk : gA σ 0 n.toNatClampNeg = 12) (hs : ∀ X, Dw (Int32.ofNat t) n P x4 X τ3 → wp_MO_step τ X) (hbody : vp_in (gA σ 4 P.toNatClampNeg) 48) (hb : ¬ gA σ 5 P.toNatClampNeg ≤ 0 → vp_in (gA σ 2 n.toNatClampNeg) 48) (hc : ¬ gA σ 5 P.toNatClampNeg ≤ 1 → vp_in (gA σ 3 n.toNatClampNeg) 48) (v1 : Wi f1) (v2 : Wi f2) (b1 : ¬ gA σ 5 P.toNatClampNeg ≤ 0 → ¬ bit (gA σ 6 P.toNatClampNeg) 0 → gD τ3 4 t = f1) (b2 : ¬ gA σ 5 P.toNatClampNeg ≤ 1 → ¬ bit (gA σ 6 P.toNatClampNeg) 1 → gD τ3 5 t = f2) (q : HQ σ t τ Q) :
    (wp_WK_mayEnter  σ (fun r16 s17 => ((r16 = 0 → Q FP.dconst0 s17) ∧ (¬ r16 = 0 → (vp_in (gI s17 5) 8 ∧ (vp_in P 4 ∧ (vp_in P 4 ∧ (wp_EN_begin ((gI s17 5).toNatClampNeg) h (gA s17 5 (P.toNatClampNeg)) (gA s17 6 (P.toNatClampNeg)) s17 (fun s21 => (vp_in n 48 ∧ (wp_EN_give ((gI s17 5).toNatClampNeg) 0 (gA s21 2 n.toNatClampNeg) f1 s21 (fun s23 => (vp_in n 48 ∧ (wp_EN_give ((gI s17 5).toNatClampNeg) 1 (gA s23 3 n.toNatClampNeg) f2 s23 (fun s25 => (∀ s26 : CS, s26 = sI s25 5 ((gI s25 5) + 1) → (∀ s27 : CS, s27 = sI s26 2 ((gI s26 2) + 1) → (vp_in P 4 ∧ (V (gA s27 4 (P.toNatClampNeg)) ((gI s17 5).toNatClampNeg) (dp + 1) s27 (fun r28 s29 => (∀ s30 : CS, s30 = sI s29 5 ((gI s29 5) - 1) → (∀ s31 : CS, s31 = sI s30 6 ((gI s30 6) - 1) → Q r28 s31)))))))))))))))))))))) := by
  have R3 := R.tw T
  have e3 : vp_in (Int32.ofNat t) 310 := t_in (by omega) (by omega)
  refine mayEnter_of (fun h8 => tk rfl ?_) (fun h8 => sk (by decide) ?_)
  · refine q.bad R T I C ht (by decide) (k' := 7) (by decide) (fun X hX => hs X ?_) wi0
    unfold Dw
    refine deeper_no (by rw [R3.2.2.2.2.2.1]; exact h8) (sk (by rw [gI_sI]; decide) (hX _ rfl))
  obtain ⟨k1, k2, k3⟩ := oc1 I h8
  have c5 : gI (EN1 σ) 5 = gI σ 5 := EN1_I (by decide) (by decide)
  rw [c5]
  obtain ⟨o1, o2, o3⟩ := I.2.2.1
  have hin8 : vp_in (gI σ 5) 8 := by
    rintro (g | g)
    · rw [Int32.lt_iff_toInt_lt] at g
      have : (0 : Int32).toInt = 0 := rfl
      omega
    · have : (gI σ 5).toNatClampNeg = (gI σ 5).toInt.toNat := rfl
      omega
  have hg : (gI σ 5).toNatClampNeg < 8 := by
    have : (gI σ 5).toNatClampNeg = (gI σ 5).toInt.toNat := rfl
    omega
  have eg : gI σ 5 + 1 = en (gI σ 5).toNatClampNeg := by
    have e5 : gI σ 5 = Int32.ofNat (gI σ 5).toNatClampNeg := by
      rw [← Int32.toInt_inj, t_int (by omega)]
      have : (gI σ 5).toNatClampNeg = (gI σ 5).toInt.toNat := rfl
      omega
    have : en (gI σ 5).toNatClampNeg = Int32.ofNat ((gI σ 5).toNatClampNeg + 1) := if_neg (by omega)
    rw [this, ← t_add (by omega), ← e5]
  generalize hgg : (gI σ 5).toNatClampNeg = g at hg eg ⊢
  refine ⟨hin8, hP4, hP4, by omega, hv9 hh, fun s1 d1 s2 d2 s3 d3 s4 d4 => ⟨hn, by omega, in4, fun s5 d5 => ⟨in4, fun s6 d6 => ⟨hn, by omega, in4', fun s7 d7 => ⟨in4', fun s8 d8 s9 d9 s10 d10 => ⟨hP4, ?_⟩⟩⟩⟩⟩⟩
  generalize hs0 : EN1 σ = s at *
  have PgE : Pg σ s := by rw [← hs0]; exact EN1_Pg
  have InE : In s := by rw [← hs0]; exact EN1_In I h8
  have iE : ∀ j, j ≠ 6 → j ≠ 3 → gI s j = gI σ j := fun j j1 j2 => by rw [← hs0]; exact EN1_I j1 j2
  have i6 : gI s 6 = gI σ 6 + 1 := by rw [← hs0]; exact EN1_6
  have aE : ∀ j, gA s j = gA σ j := fun j => by rw [← hs0]; rfl
  have dE : ∀ j, gD s j = gD σ j := fun j => by rw [← hs0]; rfl
  have cE : ∀ j, gC s j = gC σ j := fun j => by rw [← hs0]; rfl
  have z0 : (0 : Int32).toNatClampNeg = 0 := by decide
  have z1 : (1 : Int32).toNatClampNeg = 1 := by decide
  rw [z0] at d5 d6
  rw [z1] at d7 d8
  have hI : ∀ j, j ≠ 20 + g → j ≠ 30 + g → j ≠ 5 → j ≠ 2 → gI s10 j = gI s j := by
    intro j j1 j2 j3 j4
    rw [d10, gI_s j4, d9, gI_s j3, d8, gI_sD, d7, gI_sA, d6, gI_sD, d5, gI_sA, d4, gI_sD, d3, gI_s j2, d2, gI_s j1, d1, gI_sC]
  have hI20 : gI s10 (20 + g) = gA s 5 P.toNatClampNeg := by
    rw [d10, gI_s (by omega), d9, gI_s (by omega), d8, gI_sD, d7, gI_sA, d6, gI_sD, d5, gI_sA, d4, gI_sD, d3, gI_s (by omega), d2, gI_sI]
  have hI30 : gI s10 (30 + g) = gA s 6 P.toNatClampNeg := by
    rw [d10, gI_s (by omega), d9, gI_s (by omega), d8, gI_sD, d7, gI_sA, d6, gI_sD, d5, gI_sA, d4, gI_sD, d3, gI_sI]
  have hI5 : gI s10 5 = gI s 5 + 1 := by
    rw [d10, gI_s (by omega), d9, gI_sI, d8, gI_sD, d7, gI_sA, d6, gI_sD, d5, gI_sA, d4, gI_sD, d3, gI_s (by omega), d2, gI_s (by omega), d1, gI_sC]
  have hC : ∀ k, k ≠ g → gC s10 k = gC s k := by
    intro k hk
    rw [d10, gC_sI, d9, gC_sI, d8, gC_sD, d7, gC_sA, d6, gC_sD, d5, gC_sA, d4, gC_sD, d3, gC_sI, d2, gC_sI, d1, gC_s hk]
  have hCg : gC s10 g = some h := by
    rw [d10, gC_sI, d9, gC_sI, d8, gC_sD, d7, gC_sA, d6, gC_sD, d5, gC_sA, d4, gC_sD, d3, gC_sI, d2, gC_sI, d1, gC_sC]
  have hA4 : ∀ j, gA s4 j = gA s j := by
    intro j
    rw [d4, gA_sD, d3, gA_sI, d2, gA_sI, d1, gA_sC]
  have hA : ∀ j, j ≠ 10 + g → gA s10 j = gA s j := by
    intro j hj
    rw [d10, gA_sI, d9, gA_sI, d8, gA_sD, d7, gA_s hj, d6, gA_sD, d5, gA_s hj, hA4]
  have hAg0 : gA s10 (10 + g) 0 = gA s 2 n.toNatClampNeg := by
    rw [d10, gA_sI, d9, gA_sI, d8, gA_sD, d7, gA_sA, upd_ne (by decide), d6, gA_sD, d5, gA_sA, upd_self, hA4]
  have hAg1 : gA s10 (10 + g) 1 = gA s 3 n.toNatClampNeg := by
    rw [d10, gA_sI, d9, gA_sI, d8, gA_sD, d7, gA_sA, upd_self, d6, gA_sD, d5, gA_s (by omega), hA4]
  have hDo : ∀ j, j ≠ 10 + g → j ≠ 20 + g → gD s10 j = gD s j := by
    intro j j1 j2
    rw [d10, gD_sI, d9, gD_sI, d8, gD_s j1, d7, gD_sA, d6, gD_s j1, d5, gD_sA, d4, gD_s j2, d3, gD_sI, d2, gD_sI, d1, gD_sC]
  have hDv : gD s10 (10 + g) = vf_upd (vf_upd (gD s (10 + g)) 0 f1) 1 f2 := by
    rw [d10, gD_sI, d9, gD_sI, d8, gD_sD, d7, gD_sA, d6, gD_sD, d5, gD_sA, d4, gD_s (by omega), d3, gD_sI, d2, gD_sI, d1, gD_sC]
  have hDl : gD s10 (20 + g) = fl 2 FP.dconst0 (gD s (20 + g)) := by
    rw [d10, gD_sI, d9, gD_sI, d8, gD_s (by omega), d7, gD_sA, d6, gD_s (by omega), d5, gD_sA, d4, gD_sD, d3, gD_sI, d2, gD_sI, d1, gD_sC]
  clear d1 d2 d3 d4 d5 d6 d7 d8 d9 d10 hA4
  have hPg10 : Pg s s10 := ⟨hA 0 (by omega), hA 1 (by omega), hA 2 (by omega), hA 3 (by omega), hA 4 (by omega), hA 5 (by omega), hA 6 (by omega), hI 8 (by omega) (by omega) (by omega) (by omega)⟩
  have hPσ := PgE.tr hPg10
  have hcm : ∀ x, gC σ x ≠ none → gC s10 x ≠ none := by
    intro x hx
    by_cases e : x = g
    · rw [e, hCg]; exact fun y => nomatch y
    · rw [hC x e, cE]; exact hx
  have hE := InE.2.1
  have hE10 : EI s10 := by
    refine ⟨?_, fun h' hh' k hk' => ?_, fun j => ?_, fun j => ?_, fun h' hh' j => ?_, ?_⟩
    · rw [hC 8 (by omega)]; exact hE.1
    · by_cases e : h' = g
      · subst e
        rw [hCg] at hk'
        cases hk'
        refine ⟨hh.imp id (fun y => ⟨y.1, hcm h y.2⟩), fun a ha hl => ?_⟩
        rw [hI20, aE] at hl
        rcases in2 ha with z | z
        · subst z
          rw [z0, hAg0, aE]; exact hb hl
        · subst z
          rw [z1, hAg1, aE]; exact hc hl
      · rw [hC h' e] at hk'
        have := hE.2.1 h' hh' k hk'
        refine ⟨this.1.imp id (fun y => ⟨y.1, hcm k (by rw [← cE]; exact y.2)⟩), fun a ha hl => ?_⟩
        rw [hI (20 + h') (by omega) (by omega) (by omega) (by omega)] at hl
        rw [hA (10 + h') (by omega)]
        exact this.2 a ha hl
    · rw [hDo 0 (by omega) (by omega)]
      exact hE.2.2.1 j
    · rw [hDo 1 (by omega) (by omega)]
      exact hE.2.2.2.1 j
    · by_cases e : h' = g
      · subst e
        rw [hDv, hDl]
        unfold vf_upd fl
        refine ⟨?_, ?_⟩
        · split
          · exact v2
          · split
            · exact v1
            · exact (hE.2.2.2.2.1 h' hh' j).1
        · split
          · exact wi0
          · exact (hE.2.2.2.2.1 h' hh' j).2
      · rw [hDo (10 + h') (by omega) (by omega), hDo (20 + h') (by omega) (by omega)]
        exact hE.2.2.2.2.1 h' hh' j
    · rw [hI 9 (by omega) (by omega) (by omega) (by omega), hI 10 (by omega) (by omega) (by omega) (by omega), hI 11 (by omega) (by omega) (by omega) (by omega), hI 12 (by omega) (by omega) (by omega) (by omega)]
      exact hE.2.2.2.2.2
  have j5 : gI s10 5 = gI σ 5 + 1 := by rw [hI5, iE 5 (by decide) (by decide)]
  have j6 : gI s10 6 = gI σ 6 + 1 := by rw [hI 6 (by omega) (by omega) (by omega) (by omega), i6]
  have t5 : (gI σ 5 + 1).toInt = (gI σ 5).toInt + 1 := by
    rw [Int32.toInt_add, show (1 : Int32).toInt = 1 from rfl, Int.bmod_eq_of_le (by omega) (by omega)]
  have i0 : gI s10 0 = gI σ 0 := by rw [hI 0 (by omega) (by omega) (by omega) (by omega), iE 0 (by decide) (by decide)]
  have in10 : In s10 := by
    refine ⟨hPσ.pw I.1, hE10, ?_, ?_⟩
    · unfold OC
      rw [j5, j6, t5, k1]
      omega
    · unfold Wk
      rw [i0]; exact I.2.2.2
  have i1 : gI s10 1 = gI σ 1 := by rw [hI 1 (by omega) (by omega) (by omega) (by omega), iE 1 (by decide) (by decide)]
  have i7 : gI s10 7 = gI σ 7 := by rw [hI 7 (by omega) (by omega) (by omega) (by omega), iE 7 (by decide) (by decide)]
  have a7 : gA s10 7 = gA σ 7 := by rw [hA 7 (by omega), aE]
  have Rl3 := R3.rl hn (k_ne hk (by decide))
  obtain ⟨⟨l1, l2, l3, l4, l5, l6⟩, l7, l8, l9⟩ := Rl3
  have p3 := hP4
  obtain ⟨m, cc, hD⟩ := Dw_to (x4 := x4) (P := P) ht hn hP4 hg (by rw [l9]; exact h8) l4 (by rw [l8]; exact eg)
  generalize hτ : QT τ3 t n g m cc (gA τ3 5 P.toNatClampNeg) (gA τ3 6 P.toNatClampNeg) = τ2 at hD
  have qi : ∀ j, j ≠ 7 → j ≠ 12 → j ≠ 6 → j ≠ 11 → gI τ2 j = gI τ3 j := fun j y1 y2 y3 y4 => by rw [← hτ]; exact QT_I y1 y2 y3 y4
  have qa : ∀ j, j ≠ 7 → j ≠ 8 → j ≠ 9 → j ≠ 10 → j ≠ 13 → gA τ2 j = gA τ3 j := fun j y1 y2 y3 y4 y5 => by rw [← hτ]; exact QT_A y1 y2 y3 y4 y5
  have qd : ∀ j, j ≠ 2 → j ≠ 3 → gD τ2 j = gD τ3 j := fun j y1 y2 => by rw [← hτ]; exact QT_D y1 y2
  have lk : Lk s10 τ2 := by
    refine l1.cl ⟨qa 0 (by decide) (by decide) (by decide) (by decide) (by decide), qa 1 (by decide) (by decide) (by decide) (by decide) (by decide), qa 2 (by decide) (by decide) (by decide) (by decide) (by decide), qa 3 (by decide) (by decide) (by decide) (by decide) (by decide), qa 4 (by decide) (by decide) (by decide) (by decide) (by decide), qa 5 (by decide) (by decide) (by decide) (by decide) (by decide), qa 6 (by decide) (by decide) (by decide) (by decide) (by decide)⟩ ⟨hPσ.1, hPσ.2.1, hPσ.2.2.1, hPσ.2.2.2.1, hPσ.2.2.2.2.1, hPσ.2.2.2.2.2.1, hPσ.2.2.2.2.2.2.1⟩ (fun j hj => qi j (by omega) (by omega) (by omega) (by omega)) (fun j y1 y2 => ?_) ?_ ?_
    · rw [hI j (by omega) (by omega) (by omega) (by omega), iE j (by omega) (by omega)]
    · rw [qd 0 (by decide) (by decide), hDo 0 (by omega) (by omega), dE, l1.2.2.1]
    · rw [qd 1 (by decide) (by decide), hDo 1 (by omega) (by omega), dE, l1.2.2.2]
  have en2 : En s10 τ2 := by
    intro x hx c hcx
    have a9 : gA τ2 9 = upd (gA τ3 9) (g + 1) (gA τ3 5 P.toNatClampNeg) := by rw [← hτ]; exact QT_A9
    have a10 : gA τ2 10 = upd (gA τ3 10) (g + 1) (gA τ3 6 P.toNatClampNeg) := by rw [← hτ]; exact QT_A10
    have a7' : gA τ2 7 = upd (upd (gA τ3 7) (2 * (g + 1)) (gA τ3 2 n.toNatClampNeg)) (2 * (g + 1) + 1) (gA τ3 3 n.toNatClampNeg) := by rw [← hτ]; exact QT_A7
    have a8 : gA τ2 8 = upd (upd (gA τ3 8) (2 * (g + 1)) (gA τ3 12 t)) (2 * (g + 1) + 1) (gA τ3 12 t) := by rw [← hτ]; exact QT_A8
    have d2 : gD τ2 2 = vf_upd (vf_upd (gD τ3 2) (2 * (g + 1)) (gD τ3 4 t)) (2 * (g + 1) + 1) (gD τ3 5 t) := by rw [← hτ]; exact QT_D2
    have d3 : gD τ2 3 = vf_upd (vf_upd (gD τ3 3) (2 * (g + 1)) FP.dconst0) (2 * (g + 1) + 1) FP.dconst0 := by rw [← hτ]; exact QT_D3
    rw [a9, a10, a7', a8, d2, d3]
    by_cases e : x = g
    · subst e
      rw [hCg] at hcx
      cases hcx
      rw [hI20, hI30, upd_self, upd_self, aE, aE, l1.1.2.2.2.2.2.1, l1.1.2.2.2.2.2.2]
      refine ⟨rfl, rfl, fun k hk2 => ?_⟩
      match k, hk2 with
      | 0, _ =>
        rw [show 2 * (x + 1) + 0 = 2 * (x + 1) from rfl, upd_ne (by omega), upd_self, hAg0, aE, l1.1.2.2.1, upd_ne (by omega), upd_self, R3.he, vfu_ne (by omega), vfu_self, hDl, vfu_ne (by omega), vfu_self, hDv, vfu_ne (by omega), vfu_self]
        exact ⟨rfl, rfl, rfl, fun y1 y2 => b1 y1 y2⟩
      | 1, _ =>
        rw [upd_self, hAg1, aE, l1.1.2.2.2.1, upd_self, R3.he, vfu_self, hDl, vfu_self, hDv, vfu_self]
        exact ⟨rfl, rfl, rfl, fun y1 y2 => b2 y1 y2⟩
    · rw [hC x e, cE] at hcx
      obtain ⟨y1, y2, y3⟩ := l2 x hx c hcx
      rw [hI (20 + x) (by omega) (by omega) (by omega) (by omega), hI (30 + x) (by omega) (by omega) (by omega) (by omega), iE (20 + x) (by omega) (by omega), iE (30 + x) (by omega) (by omega), upd_ne (by omega), upd_ne (by omega), hA (10 + x) (by omega), aE, hDo (20 + x) (by omega) (by omega), hDo (10 + x) (by omega) (by omega), dE, dE]
      refine ⟨y1, y2, fun k hk2 => ?_⟩
      rw [upd_ne (by omega), upd_ne (by omega), upd_ne (by omega), upd_ne (by omega), vfu_ne (by omega), vfu_ne (by omega), vfu_ne (by omega), vfu_ne (by omega)]
      exact y3 k hk2
  have kq : Kp τ3 τ2 t := by rw [← hτ]; exact QT_K
  have a11 := qa 11 (by decide) (by decide) (by decide) (by decide) (by decide)
  refine env_child (h' := g) (τ2 := τ2) (σ' := s10) hV q I hd ht hdp hn R e6 in10 ⟨by rw [i1]; exact C.1, by rw [i7]; exact C.2⟩ ⟨⟨lk, en2, ?_, ?_, ?_, ?_⟩, ?_, ?_, ?_⟩ (Or.inr ⟨hg, by rw [hCg]; exact fun y => nomatch y⟩) (by rw [hPσ.2.2.2.2.1]; exact hbody) (T.2.1.tr kq) (by rw [a11]; exact R3.hf) (by rw [qa 14 (by decide) (by decide) (by decide) (by decide) (by decide)]; exact R3.2.2.1) (by rw [qa 15 (by decide) (by decide) (by decide) (by decide) (by decide)]; exact R3.2.2.2.1) a7 (k_ne hk (by decide)) hPσ (fun X hX => hs X (hD X ?_)) (fun s => sI (sI s 5 (gI s 5 - 1)) 6 (gI (sI s 5 (gI s 5 - 1)) 6 - 1)) (fun s' f => ?_) (fun τ' kk k8 k0 k11 X hX => ?_) (fun r s' hq s30 d30 s31 d31 => by rw [d31, d30]; exact hq)
  · rw [qi 9 (by decide) (by decide) (by decide) (by decide), i0]; exact l3
  · rw [qi 10 (by decide) (by decide) (by decide) (by decide)]; exact l4
  · exact l5.fr a7 (qa 0 (by decide) (by decide) (by decide) (by decide) (by decide)) (qa 1 (by decide) (by decide) (by decide) (by decide) (by decide)) (fun f _ => by rw [a11])
  · intro f hf
    rw [a11]; exact l6 f hf
  · rw [qi 8 (by decide) (by decide) (by decide) (by decide)]; exact l7
  · rw [j5, eg, ← hτ]; exact QT_I6
  · rw [j6, ← l9, ← hτ]; exact QT_I7
  · rw [l1.1.2.2.2.2.1, ← hPσ.2.2.2.2.1]; exact hX
  · refine ⟨⟨((hPσ.tr f.1).tr (Pg_sI (by decide))).tr (Pg_sI (by decide)), ?_, ?_, ?_, ?_, EI_sI (by decide) (EI_sI (by decide) f.2.2.2.2.2.1), ?_, ?_⟩, ⟨?_, ?_, ?_⟩, fun z => ⟨fun y => (y.ci (by decide)).ci (by decide), fun y => (y.ci (by decide)).ci (by decide)⟩⟩
    · rw [gI_s (by decide), gI_sI, f.2.1, j5]
      exact Int32.add_sub_cancel _ _
    · rw [gI_sI, gI_s (by decide), f.2.2.1, j6]
      exact Int32.add_sub_cancel _ _
    · exact f.2.2.2.1.trans a7
    · exact fun x hx => f.2.2.2.2.1 x (hcm x hx)
    · unfold Wk
      rw [gI_s (by decide), gI_s (by decide)]
      exact f.2.2.2.2.2.2.1
    · have := f.2.2.2.2.2.2.2
      rw [i0] at this
      rw [gI_s (by decide), gI_s (by decide)]
      exact this
    · rw [gI_s (by decide), gI_s (by decide)]
    · rw [gI_s (by decide), gI_s (by decide)]
    · rw [gI_s (by decide), gI_s (by decide)]
  · refine st_12 k8 ht k11 hn (by rw [k0]; exact hk) ?_
    have e2 : (Int32.ofNat t).toNatClampNeg = t := t_nat (by omega)
    have h13 : gA τ' 13 t = 9 := by
      rw [kk.1 13 (by omega) (by omega) t (by omega), ← hτ]
      exact QT_A13
    unfold wp_MO_call
    simp only [e2, h13]
    exact ⟨hn, e3, sk (by decide) (tk trivial hX)⟩
end TAIL
theorem neg1 {a : Int32} {N : Nat} (h : a = -1 ∨ vp_in a N) : a < 0 ↔ a = -1 := by
  rcases h with h | h
  · subst h; decide
  · exact ⟨fun g => absurd (Or.inl g) h, fun g => by subst g; decide⟩
theorem lt1 {a : Int32} : a < 1 ↔ a ≤ 0 := by
  rw [Int32.lt_iff_toInt_lt, Int32.le_iff_toInt_le, show (1 : Int32).toInt = 1 from rfl, show (0 : Int32).toInt = 0 from rfl]
  omega
theorem lt2 {a : Int32} : a < 2 ↔ a ≤ 1 := by
  rw [Int32.lt_iff_toInt_lt, Int32.le_iff_toInt_le, show (1 : Int32).toInt = 1 from rfl, show (2 : Int32).toInt = 2 from rfl]
  omega
theorem canCall_of {n : Int32} {σ : CS} {Q : Int32 → CS → Prop} (hn : vp_in n 48) (hP : vp_in (gA σ 1 n.toNatClampNeg) 4)
    (h0 : (gA σ 4 (gA σ 1 n.toNatClampNeg).toNatClampNeg = -1 ∨ (¬ gA σ 5 (gA σ 1 n.toNatClampNeg).toNatClampNeg < 1 ∧ gA σ 2 n.toNatClampNeg = -1) ∨ (¬ gA σ 5 (gA σ 1 n.toNatClampNeg).toNatClampNeg < 2 ∧ gA σ 3 n.toNatClampNeg = -1)) → Q 0 σ)
    (h1 : gA σ 4 (gA σ 1 n.toNatClampNeg).toNatClampNeg ≠ -1 → (¬ gA σ 5 (gA σ 1 n.toNatClampNeg).toNatClampNeg < 1 → gA σ 2 n.toNatClampNeg ≠ -1) → (¬ gA σ 5 (gA σ 1 n.toNatClampNeg).toNatClampNeg < 2 → gA σ 3 n.toNatClampNeg ≠ -1) → Q 1 σ) : wp_PR_canBeCalled n σ Q :=
  ⟨hn, hP, fun b => h0 (Or.inl b), fun b => ⟨hP, fun c1 => ⟨hP, fun c2 => h1 b (fun h => absurd c1 h) (fun h => absurd c2 h), fun c2 => ⟨hn, fun e => h0 (Or.inr (Or.inr ⟨c2, e⟩)), fun e => h1 b (fun h => absurd c1 h) (fun _ => e)⟩⟩, fun c1 => ⟨hn, fun e => h0 (Or.inr (Or.inl ⟨c1, e⟩)), fun e1 => ⟨hP, fun c2 => h1 b (fun _ => e1) (fun h => absurd c2 h), fun c2 => ⟨hn, fun e => h0 (Or.inr (Or.inr ⟨c2, e⟩)), fun e => h1 b (fun _ => e1) (fun _ => e)⟩⟩⟩⟩⟩
theorem byValue_of {p a : Int32} {σ : CS} {Q : Int32 → CS → Prop} (hP : vp_in p 4) (h0 : (gA σ 5 p.toNatClampNeg ≤ a ∨ bit (gA σ 6 p.toNatClampNeg) a) → Q 0 σ) (h1 : ¬ gA σ 5 p.toNatClampNeg ≤ a → ¬ bit (gA σ 6 p.toNatClampNeg) a → Q 1 σ) : wp_PR_isByValue p a σ Q :=
  ⟨hP, fun g => h0 (Or.inl g), fun c => ⟨hP, fun z => h1 c (and1_z z), fun z => h0 (Or.inr (and1_ne z))⟩⟩
section CALL
variable {τ : CS} {t : Nat} {n P x4 : Int32} {X : CS → Prop}
theorem c_end {k : Int32} (hP : vp_in P 4) (hk : gA τ 5 P.toNatClampNeg ≤ k) (hX : Dw (Int32.ofNat t) n P x4 X τ) : ∃ fu, lp_MO_call_124 (Int32.ofNat t) n X fu k x4 P τ := by
  refine ⟨0 + 1, ?_⟩
  unfold lp_MO_call_124
  exact ⟨hP, tk hk hX⟩
theorem c_name {k : Int32} (hP : vp_in P 4) (hk : ¬ gA τ 5 P.toNatClampNeg ≤ k) (hb : bit (gA τ 6 P.toNatClampNeg) k) (hX : ∃ fu, lp_MO_call_124 (Int32.ofNat t) n X fu (k + 1) x4 P τ) : ∃ fu, lp_MO_call_124 (Int32.ofNat t) n X fu k x4 P τ := by
  obtain ⟨fu, hX⟩ := hX
  refine ⟨fu + 1, ?_⟩
  unfold lp_MO_call_124
  exact ⟨hP, sk hk ⟨hP, tk hb hX⟩⟩
theorem c_val0 (ht : t < 80) (hn : vp_in n 48) (hP : vp_in P 4) (hk : ¬ gA τ 5 P.toNatClampNeg ≤ 0) (hb : ¬ bit (gA τ 6 P.toNatClampNeg) 0) (h0 : 0 ≤ gA τ 2 n.toNatClampNeg) (hX : wp_MO_enter (gA τ 2 n.toNatClampNeg) (gA τ 12 t) (sA τ 13 (upd (gA τ 13) t 1)) X) : ∃ fu, lp_MO_call_124 (Int32.ofNat t) n X fu 0 x4 P τ := by
  have e2 : (Int32.ofNat t).toNatClampNeg = t := t_nat (by omega)
  have e3 : vp_in (Int32.ofNat t) 310 := t_in (by omega) (by omega)
  refine ⟨0 + 1, ?_⟩
  unfold lp_MO_call_124
  refine ⟨hP, sk hk ⟨hP, sk hb (tk rfl ⟨hn, e3, fun s es => ?_⟩)⟩⟩
  rw [e2, show (0 : Int32) + 1 = 1 by decide] at es
  rw [e2]
  refine tk h0 ⟨e3, ?_⟩
  subst es
  exact hX
theorem c_val1 (ht : t < 80) (hn : vp_in n 48) (hP : vp_in P 4) (hk : ¬ gA τ 5 P.toNatClampNeg ≤ 1) (hb : ¬ bit (gA τ 6 P.toNatClampNeg) 1) (h0 : 0 ≤ gA τ 3 n.toNatClampNeg) (hX : wp_MO_enter (gA τ 3 n.toNatClampNeg) (gA τ 12 t) (sA τ 13 (upd (gA τ 13) t 2)) X) : ∃ fu, lp_MO_call_124 (Int32.ofNat t) n X fu 1 x4 P τ := by
  have e2 : (Int32.ofNat t).toNatClampNeg = t := t_nat (by omega)
  have e3 : vp_in (Int32.ofNat t) 310 := t_in (by omega) (by omega)
  refine ⟨0 + 1, ?_⟩
  unfold lp_MO_call_124
  refine ⟨hP, sk hk ⟨hP, sk hb (sk (by decide) ⟨hn, e3, fun s es => ?_⟩)⟩⟩
  rw [e2, show (1 : Int32) + 1 = 2 by decide] at es
  rw [e2]
  refine tk h0 ⟨e3, ?_⟩
  subst es
  exact hX
theorem c_none1 (hP : vp_in P 4) (h2 : (gA τ 5 P.toNatClampNeg).toInt ≤ 2) (hb : gA τ 5 P.toNatClampNeg ≤ 1 ∨ bit (gA τ 6 P.toNatClampNeg) 1) (hX : Dw (Int32.ofNat t) n P x4 X τ) : ∃ fu, lp_MO_call_124 (Int32.ofNat t) n X fu 1 x4 P τ := by
  by_cases c : gA τ 5 P.toNatClampNeg ≤ 1
  · exact c_end hP c hX
  · refine c_name hP c (hb.resolve_left c) (c_end hP ?_ hX)
    rw [show (1 : Int32) + 1 = 2 by decide, Int32.le_iff_toInt_le, show (2 : Int32).toInt = 2 from rfl]
    exact h2
theorem c_none0 (hP : vp_in P 4) (h2 : (gA τ 5 P.toNatClampNeg).toInt ≤ 2) (h0 : gA τ 5 P.toNatClampNeg ≤ 0 ∨ bit (gA τ 6 P.toNatClampNeg) 0) (hb : gA τ 5 P.toNatClampNeg ≤ 1 ∨ bit (gA τ 6 P.toNatClampNeg) 1) (hX : Dw (Int32.ofNat t) n P x4 X τ) : ∃ fu, lp_MO_call_124 (Int32.ofNat t) n X fu 0 x4 P τ := by
  by_cases c : gA τ 5 P.toNatClampNeg ≤ 0
  · exact c_end hP c hX
  · refine c_name hP c (h0.resolve_left c) ?_
    rw [show (0 : Int32) + 1 = 1 by decide]
    exact c_none1 hP h2 hb hX
theorem cs_0 (ht : t < 80) (hn : vp_in n 48) (hP : vp_in (gA τ 1 n.toNatClampNeg) 4) (h13 : gA τ 13 t = 0) (hb : ¬ gA τ 4 (gA τ 1 n.toNatClampNeg).toNatClampNeg < 0) (h1 : ¬ gA τ 5 (gA τ 1 n.toNatClampNeg).toNatClampNeg ≤ 0 → ¬ gA τ 2 n.toNatClampNeg < 0) (h2 : ¬ gA τ 5 (gA τ 1 n.toNatClampNeg).toNatClampNeg ≤ 1 → 0 ≤ gA τ 3 n.toNatClampNeg) (hX : ∃ fu, lp_MO_call_124 (Int32.ofNat t) n X fu 0 0 (gA τ 1 n.toNatClampNeg) τ) : wp_MO_call (Int32.ofNat t) n τ X := by
  have e2 : (Int32.ofNat t).toNatClampNeg = t := t_nat (by omega)
  have e3 : vp_in (Int32.ofNat t) 310 := t_in (by omega) (by omega)
  unfold wp_MO_call
  simp only [e2, h13]
  refine ⟨hn, e3, tk trivial ⟨hP, sk hb ⟨hP, fun c1 => ⟨hP, fun c2 => ?_, fun c2 => ⟨hn, tk (h2 c2) ?_⟩⟩, fun c1 => ⟨hn, sk (h1 c1) ⟨hP, fun c2 => ?_, fun c2 => ⟨hn, tk (h2 c2) ?_⟩⟩⟩⟩⟩⟩ <;>
  exact sk (by decide) (sk (by decide) (sk (by decide) hX))
theorem cs_bad (ht : t < 80) (hn : vp_in n 48) (hP : vp_in (gA τ 1 n.toNatClampNeg) 4) (h13 : gA τ 13 t = 0) (hb : gA τ 4 (gA τ 1 n.toNatClampNeg).toNatClampNeg < 0 ∨ (¬ gA τ 5 (gA τ 1 n.toNatClampNeg).toNatClampNeg ≤ 0 ∧ gA τ 2 n.toNatClampNeg < 0) ∨ (¬ gA τ 5 (gA τ 1 n.toNatClampNeg).toNatClampNeg ≤ 1 ∧ ¬ 0 ≤ gA τ 3 n.toNatClampNeg)) (hX : wp_MO_wrong 4 τ X) : wp_MO_call (Int32.ofNat t) n τ X := by
  have e2 : (Int32.ofNat t).toNatClampNeg = t := t_nat (by omega)
  have e3 : vp_in (Int32.ofNat t) 310 := t_in (by omega) (by omega)
  unfold wp_MO_call
  simp only [e2, h13]
  refine ⟨hn, e3, tk trivial ⟨hP, fun _ => hX, fun b => ⟨hP, fun c1 => ⟨hP, fun c2 => ?_, fun c2 => ⟨hn, fun g => ?_, fun _ => hX⟩⟩, fun c1 => ⟨hn, fun _ => hX, fun s => ⟨hP, fun c2 => ?_, fun c2 => ⟨hn, fun g => ?_, fun _ => hX⟩⟩⟩⟩⟩⟩ <;> exfalso
  · rcases hb with y | ⟨y1, y2⟩ | ⟨y1, y2⟩
    · exact b y
    · exact y1 c1
    · exact y1 c2
  · rcases hb with y | ⟨y1, y2⟩ | ⟨y1, y2⟩
    · exact b y
    · exact y1 c1
    · exact y2 g
  · rcases hb with y | ⟨y1, y2⟩ | ⟨y1, y2⟩
    · exact b y
    · exact s y2
    · exact y1 c2
  · rcases hb with y | ⟨y1, y2⟩ | ⟨y1, y2⟩
    · exact b y
    · exact s y2
    · exact y2 g
theorem cs_1 (ht : t < 80) (hn : vp_in n 48) (h13 : gA τ 13 t = 1) (hX : ∃ fu, lp_MO_call_124 (Int32.ofNat t) n X fu 1 1 (gA τ 1 n.toNatClampNeg) (sD τ 4 (vf_upd (gD τ 4) t (gX τ 0)))) : wp_MO_call (Int32.ofNat t) n τ X := by
  have e2 : (Int32.ofNat t).toNatClampNeg = t := t_nat (by omega)
  have e3 : vp_in (Int32.ofNat t) 310 := t_in (by omega) (by omega)
  unfold wp_MO_call
  simp only [e2, h13]
  refine ⟨hn, e3, sk (by decide) (sk (by decide) (tk trivial ⟨e3, fun s es => sk (by decide) ?_⟩))⟩
  subst es
  exact hX
theorem cs_2 (ht : t < 80) (hn : vp_in n 48) (h13 : gA τ 13 t = 2) (hX : ∃ fu, lp_MO_call_124 (Int32.ofNat t) n X fu 2 2 (gA τ 1 n.toNatClampNeg) (sD τ 5 (vf_upd (gD τ 5) t (gX τ 0)))) : wp_MO_call (Int32.ofNat t) n τ X := by
  have e2 : (Int32.ofNat t).toNatClampNeg = t := t_nat (by omega)
  have e3 : vp_in (Int32.ofNat t) 310 := t_in (by omega) (by omega)
  unfold wp_MO_call
  simp only [e2, h13]
  refine ⟨hn, e3, sk (by decide) (sk (by decide) (sk (by decide) (tk trivial ⟨e3, fun s es => ?_⟩)))⟩
  subst es
  exact hX
end CALL
section MCALL
variable {V : VT} {d : Nat} {σ τ : CS} {t : Nat} {n : Int32} {h : Nat} {d0 dp : Int32} {Q : UInt64 → CS → Prop}
theorem T4 {τ : CS} {t : Nat} {v : UInt64} : Tw τ (sD τ 4 (vf_upd (gD τ 4) t v)) t := Tw_D (by decide)
theorem T5 {τ : CS} {t : Nat} {v : UInt64} : Tw τ (sD τ 5 (vf_upd (gD τ 5) t v)) t := Tw_D (by decide)
theorem m_call (hV : VS V d) (hn : vp_in n 48) (hh : hv σ h) (hdp : dp = Int32.ofNat (t + 1)) (hd : t + d = 80) (ht : t < 80) (I : In σ) (C : Cm σ) (R : Rdy σ τ t n h d0) (e6 : gI σ 6 = d0) (h13 : gA τ 13 t = 0) (hk : gA σ 0 n.toNatClampNeg = 12) (hP4 : vp_in (gA σ 1 n.toNatClampNeg) 4) (hb : gA σ 2 n.toNatClampNeg = -1 ∨ vp_in (gA σ 2 n.toNatClampNeg) 48) (hc : gA σ 3 n.toNatClampNeg = -1 ∨ vp_in (gA σ 3 n.toNatClampNeg) 48) (q : HQ σ t τ Q) : wp_WK_call V n h dp σ Q := by
  have hk' : gA τ 0 n.toNatClampNeg = 12 := by rw [R.a0]; exact hk
  have a4 := R.1.1.1.2.2.2.2.1
  have a5 := R.1.1.1.2.2.2.2.2.1
  have a6 := R.1.1.1.2.2.2.2.2.2
  have hP : (gA σ 1 n.toNatClampNeg).toNatClampNeg < 4 := by
    have : ¬ 4 ≤ (gA σ 1 n.toNatClampNeg).toNatClampNeg := fun z => hP4 (Or.inr z)
    omega
  obtain ⟨pb, p2⟩ := I.1.2 _ hP
  refine ⟨hv9 hh, canCall_of hn hP4 (fun bad => tk rfl ?_) (fun kb k1 k2 => sk (by decide) ⟨hn, ?_⟩)⟩
  · refine q.fail R (Tw.rf _ _) I C ht (by decide) (k' := 4) (by decide) (fun X hX => st_12 R.2.1 ht R.hf hn hk' (cs_bad ht hn (by rw [R.a1]; exact hP4) h13 ?_ hX))
    rw [R.a1, R.a2, R.a3, a4, a5, neg1 pb, ← lt1, ← lt2, neg1 hb, Int32.not_le, neg1 hc]
    exact bad
  have hbody := pb.resolve_left kb
  have nb : ¬ gA σ 5 (gA σ 1 n.toNatClampNeg).toNatClampNeg ≤ 0 → vp_in (gA σ 2 n.toNatClampNeg) 48 := fun z => hb.resolve_left (k1 (fun y => z (lt1.mp y)))
  have nc : ¬ gA σ 5 (gA σ 1 n.toNatClampNeg).toNatClampNeg ≤ 1 → vp_in (gA σ 3 n.toNatClampNeg) 48 := fun z => hc.resolve_left (k2 (fun y => z (lt2.mp y)))
  have st0 : ∀ X, (∃ fu, lp_MO_call_124 (Int32.ofNat t) n X fu 0 0 (gA σ 1 n.toNatClampNeg) τ) → wp_MO_step τ X := fun X hX => by
    refine st_12 R.2.1 ht R.hf hn hk' (cs_0 ht hn (by rw [R.a1]; exact hP4) h13 ?_ ?_ ?_ (by rw [R.a1]; exact hX))
    · rw [R.a1, a4, neg1 pb]; exact kb
    · rw [R.a1, a5, R.a2]; exact fun z g => nb z (Or.inl g)
    · rw [R.a1, a5, R.a3]; exact fun z => Int32.not_lt.mp (fun g => nc z (Or.inl g))
  have fin1 : ∀ {s τ' : CS}, Fr σ s → Cm s → Rdy s τ' t n h d0 → HQ s t τ' Q → ∀ {τ3 : CS} {x4 : Int32} {f1 f2 : UInt64}, Tw τ' τ3 t → (∀ X, Dw (Int32.ofNat t) n (gA σ 1 n.toNatClampNeg) x4 X τ3 → wp_MO_step τ' X) → Wi f1 → Wi f2 → (¬ gA σ 5 (gA σ 1 n.toNatClampNeg).toNatClampNeg ≤ 0 → ¬ bit (gA σ 6 (gA σ 1 n.toNatClampNeg).toNatClampNeg) 0 → gD τ3 4 t = f1) → (¬ gA σ 5 (gA σ 1 n.toNatClampNeg).toNatClampNeg ≤ 1 → ¬ bit (gA σ 6 (gA σ 1 n.toNatClampNeg).toNatClampNeg) 1 → gD τ3 5 t = f2) → _ := fun {s τ'} fs C2 R2 q2 {τ3 x4 f1 f2} T hs w1 w2 b1 b2 =>
    m_tail (V := V) (P := gA σ 1 n.toNatClampNeg) (x4 := x4) (f1 := f1) (f2 := f2) hV hn hP4 (fs.vh hh) hdp hd ht (fs.inv I) C2 R2 (by rw [fs.2.2.1]; exact e6) T (by rw [fs.1.1]; exact hk) hs (by rw [fs.1.2.2.2.2.1]; exact hbody) (by rw [fs.1.2.2.2.2.2.1, fs.1.2.2.1]; exact nb) (by rw [fs.1.2.2.2.2.2.1, fs.1.2.2.2.1]; exact nc) w1 w2 (by rw [fs.1.2.2.2.2.2.1, fs.1.2.2.2.2.2.2.1]; exact b1) (by rw [fs.1.2.2.2.2.2.1, fs.1.2.2.2.2.2.2.1]; exact b2) q2
  refine byValue_of hP4 (fun n0 => tk rfl (leave_of (fun _ _ => tk rfl (byValue_of hP4 (fun n1 => tk rfl (leave_of (fun _ _ => tk rfl ?_) (fun hl => nl C hl))) (fun l2 b2 => sk (by decide) ⟨hn, ?_⟩))) (fun hl => nl C hl))) (fun l1 b1 => sk (by decide) ⟨hn, ?_⟩)
  ·
    exact fin1 (Fr.rf I) C R q (Tw.rf _ _) (fun X hX => st0 X (c_none0 hP4 (by rw [a5]; exact p2) (by rw [a5, a6]; exact n0) (by rw [a5, a6]; exact n1) hX)) wi0 wi0 (fun y1 y2 => absurd n0 (fun z => z.elim y1 y2)) (fun y1 y2 => absurd n1 (fun z => z.elim y1 y2))
  ·
    have l0 : ¬ gA σ 5 (gA σ 1 n.toNatClampNeg).toNatClampNeg ≤ 0 := fun z => l2 (Int32.le_trans z (by decide))
    refine child hV q R hn (k_ne hk (by decide)) hd I C (T13 (v := 2)) (nc l2) hh hdp ht (fun X hX => st0 X (c_name hP4 (by rw [a5]; exact l0) (by rw [a6]; exact n0.resolve_left l0) ?_)) (fun r s τ' wr fs C2 wk q2 R2 kp vx => leave_of (fun _ _ => tk rfl ?_) (fun hl => nl C2 hl)) (fun r s wr hl hq => leave_of (fun a b => lv hl a b) (fun _ => sk (by decide) (hq _ wi0)))
    · rw [show (0 : Int32) + 1 = 1 by decide]
      exact c_val1 ht hn hP4 (by rw [a5]; exact l2) (by rw [a6]; exact b2) (by rw [R.a3]; exact Int32.not_lt.mp (fun g => nc l2 (Or.inl g))) (by rw [R.a3, R.he]; exact hX)
    · refine fin1 (x4 := 2) fs C2 R2 q2 (T5 (v := r)) (fun X hX => st_12 R2.2.1 ht R2.hf hn (by rw [R2.a0, fs.1.1]; exact hk) (cs_2 ht hn (stg kp s13) ?_)) wi0 wr (fun y1 y2 => absurd n0 (fun z => z.elim y1 y2)) (fun _ _ => by rw [gD_sD, vfu_self])
      rw [vx, R2.a1, fs.1.2.1]
      refine c_end hP4 ?_ hX
      show gA τ' 5 _ ≤ 2
      rw [R2.1.1.1.2.2.2.2.2.1, fs.1.2.2.2.2.2.1, Int32.le_iff_toInt_le, show (2 : Int32).toInt = 2 from rfl]
      exact p2
  ·
    refine child hV q R hn (k_ne hk (by decide)) hd I C (T13 (v := 1)) (nb l1) hh hdp ht (fun X hX => st0 X (c_val0 ht hn hP4 (by rw [a5]; exact l1) (by rw [a6]; exact b1) (by rw [R.a2]; exact Int32.not_lt.mp (fun g => nb l1 (Or.inl g))) (by rw [R.a2, R.he]; exact hX))) (fun r s τ' wr fs C2 wk q2 R2 kp vx => leave_of (fun _ _ => tk rfl (byValue_of hP4 (fun n1 => tk rfl (leave_of (fun _ _ => tk rfl ?_) (fun hl => nl C2 hl))) (fun l2 b2 => sk (by decide) ⟨hn, ?_⟩))) (fun hl => nl C2 hl)) (fun r s wr hl hq => leave_of (fun a b => lv hl a b) (fun _ => sk (by decide) (hq _ wi0)))
    · have z5 := R2.1.1.1.2.2.2.2.2.1
      have z6 := R2.1.1.1.2.2.2.2.2.2
      rw [fs.1.2.2.2.2.2.1, fs.1.2.2.2.2.2.2.1] at n1
      refine fin1 (x4 := 1) fs C2 R2 q2 (T4 (v := r)) (fun X hX => st_12 R2.2.1 ht R2.hf hn (by rw [R2.a0, fs.1.1]; exact hk) (cs_1 ht hn (stg kp s13) ?_)) wr wi0 (fun _ _ => by rw [gD_sD, vfu_self]) (fun y1 y2 => absurd n1 (fun z => z.elim y1 y2))
      rw [vx, R2.a1, fs.1.2.1]
      refine c_none1 hP4 ?_ ?_ hX
      · show (gA τ' 5 _).toInt ≤ 2
        rw [z5, fs.1.2.2.2.2.2.1]; exact p2
      · show gA τ' 5 _ ≤ 1 ∨ bit (gA τ' 6 _) 1
        rw [z5, z6, fs.1.2.2.2.2.2.1, fs.1.2.2.2.2.2.2.1]; exact n1
    · have z5 := R2.1.1.1.2.2.2.2.2.1
      have z6 := R2.1.1.1.2.2.2.2.2.2
      rw [fs.1.2.2.2.2.2.1] at l2
      rw [fs.1.2.2.2.2.2.2.1] at b2
      have hk2 : gA s 0 n.toNatClampNeg = 12 := by rw [fs.1.1]; exact hk
      refine child hV q2 R2 hn (k_ne hk2 (by decide)) hd (fs.inv I) C2 (T4.tr (T13 (τ := sD τ' 4 (vf_upd (gD τ' 4) t r)) (v := 2))) (by rw [fs.1.2.2.2.1]; exact nc l2) (fs.vh hh) hdp ht (fun X hX => st_12 R2.2.1 ht R2.hf hn (by rw [R2.a0]; exact hk2) (cs_1 ht hn (stg kp s13) ?_)) (fun r2 s2 τ2 wr2 fs2 C3 wk2 q3 R3 kp2 vx2 => leave_of (fun _ _ => tk rfl ?_) (fun hl => nl C3 hl)) (fun r s wr hl hq => leave_of (fun a b => lv hl a b) (fun _ => sk (by decide) (hq _ wi0)))
      · rw [vx, R2.a1, fs.1.2.1]
        refine c_val1 ht hn hP4 ?_ ?_ ?_ ?_
        · show ¬ gA τ' 5 _ ≤ 1
          rw [z5, fs.1.2.2.2.2.2.1]; exact l2
        · show ¬ bit (gA τ' 6 _) 1
          rw [z6, fs.1.2.2.2.2.2.2.1]; exact b2
        · show 0 ≤ gA τ' 3 _
          rw [R2.a3, fs.1.2.2.2.1]; exact Int32.not_lt.mp (fun g => nc l2 (Or.inl g))
        · show wp_MO_enter (gA τ' 3 _) (gA τ' 12 t) _ X
          rw [R2.a3, R2.he]
          exact hX
      · have ft := fs.tr fs2
        refine fin1 (x4 := 2) ft C3 R3 q3 (T5 (v := r2)) (fun X hX => st_12 R3.2.1 ht R3.hf hn (by rw [R3.a0, ft.1.1]; exact hk) (cs_2 ht hn (stg kp2 s13) ?_)) wr wr2 (fun _ _ => ?_) (fun _ _ => by rw [gD_sD, vfu_self])
        · rw [vx2, R3.a1, ft.1.2.1]
          refine c_end hP4 ?_ hX
          show gA τ2 5 _ ≤ 2
          rw [R3.1.1.1.2.2.2.2.2.1, ft.1.2.2.2.2.2.1, Int32.le_iff_toInt_le, show (2 : Int32).toInt = 2 from rfl]
          exact p2
        · show gD τ2 4 t = r
          rw [kp2.2 4 (by omega) (by omega) t (by omega)]
          show gD (sD τ' 4 _) 4 t = r
          rw [gD_sD, vfu_self]
end MCALL
