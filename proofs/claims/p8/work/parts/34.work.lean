theorem run_fin {p x : Int32} {Q : UInt64 → CS → Prop} {τ : CS} (h : gI τ 8 ≤ 0 ∨ ¬ gI τ 10 = 0) (hq : ∀ r c, Q r (sI τ 5 c)) : lp_MO_work_71 p Q (0 + 1) x τ := by
  have e : ∀ c : Int32, ∀ s : CS, s = sI τ 5 c → (((gI s 10) = 0 → Q (gX s 0) s) ∧ (¬ (gI s 10) = 0 → Q FP.dconst0 s)) := fun c s es => by
    rw [es]
    exact ⟨fun _ => hq _ _, fun _ => hq _ _⟩
  unfold lp_MO_work_71
  exact ⟨fun _ => ⟨fun _ => e 0, fun _ => ⟨fun _ => ⟨fun _ => e 3, fun _ => ⟨fun _ => e 4, fun _ => ⟨fun _ => e 4, fun _ => ⟨fun _ => e 5, fun _ => e 6⟩⟩⟩⟩, fun _ => e 2⟩⟩, fun h8 => ⟨fun h0 => h.elim (fun y => absurd y h8) (fun y => absurd h0 y), fun _ => ⟨fun _ => e 0, fun _ => ⟨fun _ => ⟨fun _ => e 3, fun _ => ⟨fun _ => e 4, fun _ => ⟨fun _ => e 4, fun _ => ⟨fun _ => e 5, fun _ => e 6⟩⟩⟩⟩, fun _ => e 2⟩⟩⟩⟩
theorem tf_any {k : Int32} {s : CS} {Q : CS → Prop} {X : String → CS → Prop} (hQ : Q s) (hA : X "java/lang/ArithmeticException" s) (hI : X "java/lang/IndexOutOfBoundsException" s) (hU : X "java/lang/UnsupportedOperationException" s) (hN : X "java/util/NoSuchElementException" s) (hS : X "java/lang/IllegalStateException" s) : wp_NF_throwFault k s Q X :=
  ⟨fun _ => hA, fun _ => ⟨fun _ => hA, fun _ => ⟨fun _ => hI, fun _ => ⟨fun _ => hU, fun _ => ⟨fun _ => hN, fun _ => ⟨fun _ => hU, fun _ => ⟨fun _ => hS, fun _ => ⟨fun _ => hS, fun _ => hQ⟩⟩⟩⟩⟩⟩⟩⟩
/-- the class's state as a work begins, the reference's -/
def WC (σ : CS) : CS := sI (sI (sI (sI (sI σ 0 0) 1 0) 2 0) 3 0) 4 0
def WR (τ : CS) : CS := sI (sI (sI (sI (sI (sI (sI (sI (sI τ 5 0) 8 0) 9 0) 10 0) 11 0) 12 0) 13 0) 7 0) 6 0
section WORK
variable {σ τ : CS}
theorem WC_I {k : Nat} (h : 5 ≤ k) : gI (WC σ) k = gI σ k := by
  unfold WC
  rw [gI_s (by omega), gI_s (by omega), gI_s (by omega), gI_s (by omega), gI_s (by omega)]
theorem WC_0 : gI (WC σ) 0 = 0 := by
  unfold WC
  rw [gI_s (by decide), gI_s (by decide), gI_s (by decide), gI_s (by decide), gI_sI]
theorem WC_1 : gI (WC σ) 1 = 0 := by
  unfold WC
  rw [gI_s (by decide), gI_s (by decide), gI_s (by decide), gI_sI]
theorem WR_I {k : Nat} (h : k ≤ 4) : gI (WR τ) k = gI τ k := by
  unfold WR
  rw [gI_s (by omega), gI_s (by omega), gI_s (by omega), gI_s (by omega), gI_s (by omega), gI_s (by omega), gI_s (by omega), gI_s (by omega), gI_s (by omega)]
theorem WR_6 : gI (WR τ) 6 = 0 := by
  unfold WR
  rw [gI_sI]
theorem WR_7 : gI (WR τ) 7 = 0 := by
  unfold WR
  rw [gI_s (by decide), gI_sI]
theorem WR_10 : gI (WR τ) 10 = 0 := by
  unfold WR
  rw [gI_s (by decide), gI_s (by decide), gI_s (by decide), gI_s (by decide), gI_s (by decide), gI_sI]
theorem WR_9 : gI (WR τ) 9 = 0 := by
  unfold WR
  rw [gI_s (by decide), gI_s (by decide), gI_s (by decide), gI_s (by decide), gI_s (by decide), gI_s (by decide), gI_sI]
theorem WR_8 : gI (WR τ) 8 = 0 := by
  unfold WR
  rw [gI_s (by decide), gI_s (by decide), gI_s (by decide), gI_s (by decide), gI_s (by decide), gI_s (by decide), gI_s (by decide), gI_sI]
theorem cq_work {p : Int32} {f : Nat → UInt64} {QQ : Int32 → CS → (Nat → UInt64) → Prop} (j : JJ σ τ) (hq : ∀ r s f, (∀ Z : UInt64 → CS → Prop, (∀ r' τ', JJ s τ' → Z r' τ') → wp_MO_work p τ Z) → QQ r s f) : wp_LW_work p σ f QQ := by
  have e0 := j.2.2.1.2.1.1
  have b0 := j.2.2.2.2.2.2
  unfold wp_LW_work wp_NF_work
  refine has_or (fun nd => sk (by decide) ?_) (fun nd => tk rfl (Or.inl ⟨rfl, ?_⟩))
  rotate_left
  · refine hq _ _ _ (fun Z hz => isNode_or e0 b0 (fun h => absurd h nd) (fun _ => tk rfl (fun s4 e4 => tk rfl ?_)))
    subst e4
    exact hz _ _ j.th
  intro s1 e1 s2 e2 s3 e3 s4 e4 s5 e5
  have es : s5 = WC σ := by
    subst e5 e4 e3 e2 e1
    rfl
  clear e5 e4 e3 e2 e1
  subst es
  have pw : Pg σ (WC σ) := ((((Pg_sI (by decide)).tr (Pg_sI (by decide))).tr (Pg_sI (by decide))).tr (Pg_sI (by decide))).tr (Pg_sI (by decide))
  have I5 : In (WC σ) := by
    refine ⟨pw.pw j.1, EI_sI (by decide) (EI_sI (by decide) (EI_sI (by decide) (EI_sI (by decide) (EI_sI (by decide) j.2.1)))), ?_, ?_⟩
    · unfold OC
      rw [WC_I (by omega), WC_I (by omega), j.2.2.2.2.1.1, j.2.2.2.2.1.2.1]
      decide
    · unfold Wk
      rw [WC_0]
      decide
  have C5 : Cm (WC σ) := ⟨WC_1, by rw [WC_I (by omega)]; exact j.2.2.2.2.1.2.2⟩
  have lk : Lk (WC σ) (WR τ) := ((((((((((((((j.2.2.1.ci (by decide)).ci (by decide)).ci (by decide)).ci (by decide)).ci (by decide)).ri (by decide)).ri (by decide)).ri (by decide)).ri (by decide)).ri (by decide)).ri (by decide)).ri (by decide)).ri (by decide)).ri (by decide))
  have en0 : En (WC σ) (WR τ) := ((((j.2.2.2.1.ci (by decide)).ci (by decide)).ci (by decide)).ci (by decide)).ci (by decide)
  have L5 : Rl (WC σ) (WR τ) 0 := by
    refine ⟨⟨lk, en0, by rw [WR_9, WC_0], WR_10, fun a ha => ⟨0, Nat.le_refl _, j.2.2.2.2.2.1 a ha, ⟨fun _ f hf => absurd hf (Nat.not_lt_zero _), fun _ => rfl⟩⟩, fun f hf => absurd hf (Nat.not_lt_zero _)⟩, WR_8, ?_, ?_⟩
    · rw [WR_6, WC_I (by omega), j.2.2.2.2.1.1]
    · rw [WR_7, WC_I (by omega), j.2.2.2.2.1.2.1]
  refine m_va 81 p 8 1 (WC σ) (WR τ) 0 _ (nd.inn j) (Or.inl rfl) rfl ⟨by omega, rfl⟩ I5 C5 L5 (fun r s τ' wr fs en ou => ?_)
  have key : gI s 7 = -1 → Lk s τ' → En s τ' → (gI τ' 8 ≤ 0 ∨ ¬ gI τ' 10 = 0) → ∀ c, JJ s (sI τ' 5 c) := fun h7 hl he _ c => by
    refine ⟨fs.1.pw (pw.pw j.1), fs.2.2.2.2.2.1, hl.ri (by decide), he, ⟨?_, ?_, h7⟩, fun a ha => ?_, ?_⟩
    · rw [fs.2.1, WC_I (by omega)]; exact j.2.2.2.2.1.1
    · rw [fs.2.2.1, WC_I (by omega)]; exact j.2.2.2.2.1.2.1
    · rw [fs.2.2.2.1]; exact j.2.2.2.2.2.1 a ha
    · rw [fs.1.2.2.2.2.2.2.2, WC_I (by omega)]; exact b0
  have run : (gI τ' 8 ≤ 0 ∨ ¬ gI τ' 10 = 0) → ∀ Q : UInt64 → CS → Prop, (∀ r c, Q r (sI τ' 5 c)) → wp_MO_work p τ Q := fun hf Q hq => by
    refine isNode_or e0 b0 (fun _ => sk (by decide) (fun s60 e60 => sk (by decide) (fun s62 e62 s63 e63 s64 e64 s65 e65 s66 e66 s67 e67 s68 e68 s69 e69 => ?_))) (fun h => absurd nd h)
    have ew : s69 = WR τ := by
      subst e69 e68 e67 e66 e65 e64 e63 e62 e60
      rfl
    rw [ew]
    obtain ⟨τ1, g1, g2⟩ := en
    exact g1 _ (g2 p Q 1 (0 + 1) (run_fin hf hq))
  have fin : gI s 7 = -1 → Lk s τ' → En s τ' → (gI τ' 8 ≤ 0 ∨ ¬ gI τ' 10 = 0) → ∀ x g, QQ x s g := fun h7 hl he hf x g => hq x s g (fun Z hz => run hf _ (fun r' c => hz r' _ (key h7 hl he hf c)))
  have all : ∀ x g, QQ x s g := by
    rcases ou with ⟨o1, o2, o3, o4, o5, o6⟩ | ⟨o1, o2, o3, o4, o5⟩ | ⟨o1, a, o2, o3, o4, -⟩
    · exact fin o2 o4.1.1 o4.1.2.1 (Or.inl (by rw [o4.2.1]; decide))
    · exact fin o2 o4 o5 (Or.inr o3)
    · exact absurd (j.2.2.2.2.2.1 a o3) o4
  exact tf_any (all _ _) (Or.inr (Or.inl ⟨rfl, all _ _⟩)) (Or.inr (Or.inr (Or.inl ⟨rfl, all _ _⟩))) (Or.inr (Or.inr (Or.inr (Or.inl ⟨rfl, all _ _⟩)))) (Or.inr (Or.inr (Or.inr (Or.inr (Or.inl ⟨rfl, all _ _⟩))))) (Or.inr (Or.inr (Or.inr (Or.inr (Or.inr ⟨rfl, all _ _⟩)))))
end WORK
theorem wi00 : Wi 0 := ⟨by decide +kernel, by decide +kernel⟩
theorem JJ0 : JJ sig0 tau0 := by
  refine ⟨⟨fun n hn => ?_, fun p hp => ⟨Or.inl ?_, ?_⟩⟩, ⟨rfl, fun h h8 c hc => ?_, fun k => ?_, fun k => ?_, fun h h8 k => ⟨?_, ?_⟩, by decide⟩, ⟨⟨rfl, rfl, rfl, rfl, ?_, rfl, rfl⟩, ⟨rfl, rfl, rfl, rfl, rfl⟩, rfl, rfl⟩, fun h h8 c hc => ?_, ⟨rfl, rfl, rfl⟩, fun a ha => rfl, by decide⟩
  · exact ⟨fun e => absurd e (show ¬ (0 : Int32) = 1 by decide), fun e => absurd e (show ¬ (0 : Int32) = 10 by decide), fun e => absurd e (show ¬ (0 : Int32) = 11 by decide), fun e => absurd e (show ¬ (0 : Int32) = 12 by decide), fun e => absurd e (show ¬ (0 : Int32) = 16 by decide), fun e => absurd e (show ¬ (0 : Int32) = 17 by decide), fun e => absurd e (show ¬ (0 : Int32) = 9 by decide), fun e => absurd (show (0 : Int32) = 0 from rfl) e, show vp_in (0 : Int32) 18 by unfold vp_in; decide⟩
  · show fl 4 (-1) (fun _ => 0) p = -1
    exact if_pos hp
  · show ((0 : Int32)).toInt ≤ 2
    decide
  · exact nomatch hc
  · exact wi00
  · exact wi00
  · exact wi00
  · exact wi00
  · show upd (upd (upd (upd (fun _ => 0) 0 (-1)) 1 (-1)) 2 (-1)) 3 (-1) = fl 4 (-1) (fun _ => 0)
    exact upd4
  · exact nomatch hc
