theorem z_lo : FP.Core.zval FP.Core.b64 (FP.Core.val64 13965043853221167104) = -(1000000000 * (FP.Core.one64 : Int)) := by decide +kernel
theorem z_hi : FP.Core.zval FP.Core.b64 (FP.Core.val64 4741671816366391296) = 1000000000 * (FP.Core.one64 : Int) := by decide +kernel
theorem z_half : 2 * FP.Core.zval FP.Core.b64 (FP.Core.val64 4602678819172646912) = (FP.Core.one64 : Int) := by decide +kernel
theorem z_hi5 : 2 * FP.Core.zval FP.Core.b64 (FP.Core.val64 4741671816370585600) = 2000000001 * (FP.Core.one64 : Int) := by decide +kernel
theorem z_lo5 : 2 * FP.Core.zval FP.Core.b64 (FP.Core.val64 13965043853216972800) = -(1999999999 * (FP.Core.one64 : Int)) := by decide +kernel
theorem nn {x : UInt64} (h : vf_n64 x) : FP.Core.val64 x ≠ .nan := Jvm.Free.Fl.val64_no.mp h
theorem nnc {x : UInt64} (h : (x &&& 0x7fffffffffffffff ≤ 0x7ff0000000000000)) : FP.Core.val64 x ≠ .nan := nn h
theorem wi_iff {x : UInt64} : Wi x ↔ FP.Core.val64 x ≠ .nan ∧ -(1000000000 * (FP.Core.one64 : Int)) ≤ FP.Core.zval FP.Core.b64 (FP.Core.val64 x) ∧ FP.Core.zval FP.Core.b64 (FP.Core.val64 x) ≤ 1000000000 * (FP.Core.one64 : Int) := by
  have nb : FP.Core.val64 13965043853221167104 ≠ .nan := nnc (by decide)
  have nc : FP.Core.val64 4741671816366391296 ≠ .nan := nnc (by decide)
  unfold Wi
  constructor
  · rintro ⟨h1, h2⟩
    have na : FP.Core.val64 x ≠ .nan := by
      intro h
      have e : FP.dcmp x 13965043853221167104 = none := (FP.Core.dcmp_none _ _).mpr (Or.inl h)
      rw [e] at h1
      exact h1 (by decide)
    refine ⟨na, ?_, ?_⟩
    · rw [← z_lo]
      refine Int.not_lt.mp (fun g => h1 ?_)
      have e : FP.dcmp x 13965043853221167104 = some .lt := FP.Core.dcmp_lt.mpr ⟨na, nb, g⟩
      rw [e]; decide
    · rw [← z_hi]
      refine Int.not_lt.mp (fun g => h2 ?_)
      have e : FP.dcmp x 4741671816366391296 = some .gt := FP.Core.dcmp_gt.mpr ⟨na, nc, g⟩
      rw [e]; decide
  · rintro ⟨na, h1, h2⟩
    constructor
    · intro g
      rw [← z_lo] at h1
      rcases FP.Core.dcmp_ge.mpr ⟨na, nb, h1⟩ with e | e <;>
      · have e' : FP.dcmp x 13965043853221167104 = _ := e
        rw [e'] at g
        exact absurd g (by decide)
    · intro g
      rw [← z_hi] at h2
      rcases FP.Core.dcmp_le.mpr ⟨na, nc, h2⟩ with e | e <;>
      · have e' : FP.dcmp x 4741671816366391296 = _ := e
        rw [e'] at g
        exact absurd g (by decide)
theorem wi_fin {x : UInt64} (h : Wi x) : Jvm.Free.Fl.Fin64 x := by
  obtain ⟨na, h1, h2⟩ := wi_iff.mp h
  have nb : FP.Core.val64 13965043853221167104 ≠ .nan := nnc (by decide)
  have nc : FP.Core.val64 4741671816366391296 ≠ .nan := nnc (by decide)
  have g1 : ¬ FP.Core.dkey x < FP.Core.dkey 13965043853221167104 := fun g => by
    have := (FP.Core.dcmp_lt.mp ((FP.Core.dcmp_lt_key na nb).mpr g)).2.2
    rw [z_lo] at this
    omega
  have g2 : ¬ FP.Core.dkey 4741671816366391296 < FP.Core.dkey x := fun g => by
    have := (FP.Core.dcmp_gt.mp ((FP.Core.dcmp_gt_key na nc).mpr g)).2.2
    rw [z_hi] at this
    omega
  refine Jvm.Free.Fl.fin64_core.mpr ((FP.Core.fin_bits x).mpr ?_)
  have k1 : FP.Core.dkey 13965043853221167104 = -4741671816366391296 := by decide +kernel
  have k2 : FP.Core.dkey 4741671816366391296 = 4741671816366391296 := by decide +kernel
  rw [k1] at g1
  rw [k2] at g2
  unfold FP.Core.dkey at g1 g2
  have hx := x.toNat_lt
  split at g1 <;> omega
theorem fin_no {x : UInt64} (h : Jvm.Free.Fl.Fin64 x) : vf_n64 x := UInt64.le_of_lt h
theorem half_fin : Jvm.Free.Fl.Fin64 4602678819172646912 := by unfold Jvm.Free.Fl.Fin64; decide
theorem fin_c0 : Jvm.Free.Fl.Fin64 FP.dconst0 := by unfold Jvm.Free.Fl.Fin64; decide +kernel
theorem nz_of {x : UInt64} {o : ClassFile.CmpOp} (hx : Jvm.Free.Fl.Fin64 x) (h : ¬ Op.cmpValue (FP.dcmp x FP.dconst0) o = 0) : Jvm.Free.Fl.Nz64 x := by
  refine (Jvm.Free.Fl.nz64_iff _).mpr (fun e => h ?_)
  have na := Jvm.Free.Fl.val64_no.mp (fin_no hx)
  have nb : FP.Core.val64 FP.dconst0 ≠ .nan := Jvm.Free.Fl.val64_no.mp (fin_no fin_c0)
  have k : FP.dcmp x FP.dconst0 = some .eq := by
    refine (FP.Core.dcmp_eq_key na nb).mpr ?_
    have k0 : FP.Core.dkey FP.dconst0 = 0 := by decide +kernel
    rw [k0]
    unfold FP.Core.dkey
    have hx := x.toNat_lt
    split <;> omega
  rw [k]
  rfl
abbrev up5 (x : UInt64) : UInt64 := FP.dadd x 4602678819172646912
theorem up5_no {x : UInt64} (h : Wi x) : vf_n64 (up5 x) := Jvm.Free.Fl.dadd_out (fin_no (wi_fin h)) half_fin
theorem cut5 {x : UInt64} (h : Wi x) : -999999999 ≤ (FP.d2l (up5 x)).toInt ∧ (FP.d2l (up5 x)).toInt ≤ 1000000000 := by
  obtain ⟨na, h1, h2⟩ := wi_iff.mp h
  have fx : ∃ s c q, FP.Core.val64 x = .fin s c q := Jvm.Free.Fl.fin64_core.mp (wi_fin h)
  have fh : ∃ s c q, FP.Core.val64 4602678819172646912 = .fin s c q := Jvm.Free.Fl.fin64_core.mp half_fin
  have ny := nn (up5_no h)
  have e : FP.Core.val64 (up5 x) = FP.Core.round FP.Core.b64 (FP.Core.exactSum (FP.Core.val64 x) (FP.Core.val64 4602678819172646912)) := FP.Core.val64_dadd _ _
  have zh := z_half
  have z5 := z_hi5
  have z6 := z_lo5
  have b1 := FP.Core.sum_le FP.Core.good_b64 fx fh (FP.Core.val64_fits _) (FP.Core.val64_fits _) (FP.Core.val64_fits 4741671816370585600) (nnc (by decide)) (by omega)
  have b2 := FP.Core.sum_ge FP.Core.good_b64 fx fh (FP.Core.val64_fits _) (FP.Core.val64_fits _) (FP.Core.val64_fits 13965043853216972800) (nnc (by decide)) (by omega)
  rw [← e] at b1 b2
  have hv : (FP.d2l (up5 x)).toInt = _ := FP.Core.d2l_val ny
  rw [hv]
  have P := FP.Core.one64_pos
  have zv : FP.Core.zval FP.Core.b64 (FP.Core.val64 (up5 x)) = FP.Core.signed (FP.Core.sgn (FP.Core.val64 (up5 x))) (FP.Core.zmag FP.Core.b64 (FP.Core.val64 (up5 x))) := rfl
  rw [zv] at b1 b2
  generalize FP.Core.sgn (FP.Core.val64 (up5 x)) = s at *
  generalize FP.Core.zmag FP.Core.b64 (FP.Core.val64 (up5 x)) = m at *
  generalize FP.Core.zval FP.Core.b64 (FP.Core.val64 4741671816370585600) = u at *
  generalize FP.Core.zval FP.Core.b64 (FP.Core.val64 13965043853216972800) = l at *
  by_cases c : 0 ≤ FP.Core.signed s m
  · obtain ⟨i, a1, a2, a3, a4⟩ := FP.Core.cut_pos (k := 1000000001) P c (by omega)
    rw [a1]
    omega
  · obtain ⟨i, a1, a2, a3, a4⟩ := FP.Core.cut_neg (s := s) (m := m) (k := 1000000000) P (by omega) (by omega)
    rw [a1]
    omega
def rd (x : UInt64) : Int64 := if Op.cmpValue (FP.dcmp (FP.l2d (FP.d2l (up5 x))) (up5 x)) .l ≤ 0 then FP.d2l (up5 x) else FP.d2l (up5 x) - 1
abbrev Sm9 (r : Int64) : Prop := -1000000000 ≤ r.toInt ∧ r.toInt ≤ 1000000000
theorem rd_sm {x : UInt64} (h : Wi x) : Sm9 (rd x) := by
  have := cut5 h
  unfold rd
  split
  · exact ⟨by omega, this.2⟩
  · have e : (FP.d2l (up5 x) - 1).toInt = (FP.d2l (up5 x)).toInt - 1 := by
      rw [Int64.toInt_sub, show (1 : Int64).toInt = 1 from rfl, Int.bmod_eq_of_le (by omega) (by omega)]
    unfold Sm9
    rw [e]
    omega
theorem rounded_to {x : UInt64} {σ : CS} {X : Int64 → CS → Prop} (h : Wi x) (hX : X (rd x) σ) : wp_NF_rounded x σ X := by
  refine ⟨up5_no h, fun c => ?_, fun c => ?_⟩
  · have e : rd x = _ := if_pos c
    rw [e] at hX
    exact hX
  · have e : rd x = _ := if_neg c
    rw [e] at hX
    exact hX
theorem one_l2d : FP.dconst1 = FP.l2d 1 := by decide +kernel
theorem round_to {x : UInt64} {σ : CS} {X : UInt64 → CS → Prop} (h : Wi x) (hX : X (FP.l2d (rd x)) σ) : wp_MO_round x σ X := by
  refine ⟨up5_no h, fun c => ?_, fun c => ?_⟩
  · have e : rd x = _ := if_pos c
    rw [e] at hX
    exact hX
  · have e : rd x = _ := if_neg c
    rw [e] at hX
    have b := cut5 h
    have k : FP.dsub (FP.l2d (FP.d2l (up5 x))) FP.dconst1 = FP.l2d (FP.d2l (up5 x) - 1) := by
      rw [one_l2d]
      exact FP.Core.dsub_l2d ⟨by omega, by omega⟩ ⟨by decide, by decide⟩
    rw [k]
    exact ⟨fin_no (Jvm.Free.Fl.l2d_fin _), hX⟩
theorem wi_l2d {r : Int64} (h : Sm9 r) : Wi (FP.l2d r) := by
  have w : FP.Core.DInt r.toInt (FP.l2d r) := FP.Core.l2d_int (by have := h.1; have := h.2; omega)
  refine wi_iff.mpr ⟨nn (fin_no (Jvm.Free.Fl.l2d_fin _)), ?_, ?_⟩
  · rw [FP.Core.DInt_zval w]
    have P := FP.Core.one64_pos
    have := Int.mul_le_mul_of_nonneg_right h.1 (Int.natCast_nonneg FP.Core.one64)
    omega
  · rw [FP.Core.DInt_zval w]
    have := Int.mul_le_mul_of_nonneg_right h.2 (Int.natCast_nonneg FP.Core.one64)
    omega
theorem d2l_rd {r : Int64} (h : Sm9 r) : FP.d2l (FP.l2d r) = r := FP.Core.d2l_l2d_small ⟨by have := h.1; omega, by have := h.2; omega⟩
theorem div_sm {a b : Int64} (h : Sm9 a) : Sm9 (a / b) := by
  have e : (a / b).toInt = (a.toInt.tdiv b.toInt) := by
    rw [Int64.toInt_div]
    have := Int.natAbs_tdiv_le_natAbs a.toInt b.toInt
    have := h.1
    have := h.2
    rw [Int.bmod_eq_of_le (by omega) (by omega)]
  unfold Sm9
  rw [e]
  have := Int.natAbs_tdiv_le_natAbs a.toInt b.toInt
  have := h.1
  have := h.2
  omega
theorem eight_fin : Jvm.Free.Fl.Fin64 4620693217682128896 := by unfold Jvm.Free.Fl.Fin64; decide
theorem eight_nz : Jvm.Free.Fl.Nz64 4620693217682128896 := (Jvm.Free.Fl.nz64_iff _).mpr (by decide +kernel)
theorem num_no (v : Int32) : vf_n64 (FP.ddiv (FP.i2d v) 4620693217682128896) := Jvm.Free.Fl.ddiv_out (fin_no (Jvm.Free.Fl.i2d_fin _)) eight_fin eight_nz
theorem eight_val : FP.Core.val64 4620693217682128896 = .fin false (2 ^ 52) (-49) := by decide +kernel
theorem qm : FP.Core.b64.qmin = -1074 := by decide +kernel
theorem num_wi (v : Int32) : Wi (FP.ddiv (FP.i2d v) 4620693217682128896) := by
  have nz := nn (num_no v)
  obtain ⟨s, c, q, hx⟩ : FP.Core.DFin (FP.i2d v) := Jvm.Free.Fl.fin64_core.mp (Jvm.Free.Fl.i2d_fin v)
  have w : FP.Core.DInt v.toInt (FP.i2d v) := FP.Core.i2d_int v
  have zx := FP.Core.DInt_zval w
  have ez : FP.Core.zval FP.Core.b64 (FP.Core.val64 (FP.i2d v)) = FP.Core.signed s (FP.Core.inUnits c q FP.Core.b64.qmin) := by rw [hx]; rfl
  have hq : FP.Core.b64.qmin ≤ q := by
    have := FP.Core.val64_fits (FP.i2d v)
    rw [hx] at this
    exact this.2.1
  have m1 : FP.Core.inUnits c q FP.Core.b64.qmin ≤ 2147483648 * FP.Core.one64 := by
    have l1 := v.toInt_lt
    have l2 := v.le_toInt
    have p := Int.natCast_nonneg FP.Core.one64
    have g1 := Int.mul_le_mul_of_nonneg_right (show v.toInt ≤ 2147483648 by omega) p
    have g2 := Int.mul_le_mul_of_nonneg_right (show (-2147483648 : Int) ≤ v.toInt by omega) p
    rw [← zx, ez] at g1 g2
    generalize FP.Core.inUnits c q FP.Core.b64.qmin = k at *
    cases s
    · have : FP.Core.signed false k = (k : Int) := rfl
      omega
    · have : FP.Core.signed true k = -(k : Int) := rfl
      omega
  have e : FP.Core.val64 (FP.ddiv (FP.i2d v) 4620693217682128896) = FP.Core.roundRatio FP.Core.b64 (s != false) c (2 ^ 52) (q - (-49)) := by
    have : FP.Core.val64 (FP.ddiv (FP.i2d v) 4620693217682128896) = FP.Core.quotient FP.Core.b64 (FP.Core.val64 (FP.i2d v)) (FP.Core.val64 4620693217682128896) := FP.Core.val64_ddiv _ _
    rw [this, hx, eight_val]
    rfl
  have mz : FP.Core.zmag FP.Core.b64 (FP.Core.val64 4741671816366391296) = 1000000000 * FP.Core.one64 := by decide +kernel
  have le := FP.Core.zmag_roundRatio_le FP.Core.good_b64 (s := s != false) (A := c) (B := 2 ^ 52) (e := q - (-49)) (e0 := FP.Core.b64.qmin) (V := FP.Core.val64 4741671816366391296) (by decide) (FP.Core.val64_fits _) (nnc (by decide)) (Int.le_refl _) (by omega) (by
    have : FP.Core.inUnits c (q - (-49)) FP.Core.b64.qmin = FP.Core.inUnits c q FP.Core.b64.qmin * 2 ^ 49 := by
      unfold FP.Core.inUnits
      rw [show (q - (-49) - FP.Core.b64.qmin).toNat = (q - FP.Core.b64.qmin).toNat + 49 by omega, Nat.pow_add, Nat.mul_assoc]
    rw [this, mz, Int.sub_self, show (2 : Nat) ^ (0 : Int).toNat = 1 by decide, Nat.mul_one]
    generalize FP.Core.one64 = P at *
    generalize FP.Core.inUnits c q FP.Core.b64.qmin = k at *
    omega)
  rw [← e, mz] at le
  refine wi_iff.mpr ⟨nz, ?_, ?_⟩
  · show _ ≤ FP.Core.signed _ _
    generalize FP.Core.zmag FP.Core.b64 (FP.Core.val64 (FP.ddiv (FP.i2d v) 4620693217682128896)) = k at *
    cases FP.Core.sgn (FP.Core.val64 (FP.ddiv (FP.i2d v) 4620693217682128896))
    · show _ ≤ (k : Int)
      omega
    · show _ ≤ -(k : Int)
      omega
  · show FP.Core.signed _ _ ≤ _
    generalize FP.Core.zmag FP.Core.b64 (FP.Core.val64 (FP.ddiv (FP.i2d v) 4620693217682128896)) = k at *
    cases FP.Core.sgn (FP.Core.val64 (FP.ddiv (FP.i2d v) 4620693217682128896))
    · show (k : Int) ≤ _
      omega
    · show -(k : Int) ≤ _
      omega
def Hd (lo hi lo2 hi2 : Int32) (a b : Int64) : Prop := lo.toInt ≤ a.toInt ∧ a.toInt ≤ hi.toInt ∧ lo2.toInt ≤ b.toInt ∧ b.toInt ≤ hi2.toInt
theorem lg_lt {a b : Int64} : lg_cmp a b < 0 ↔ a.toInt < b.toInt := by
  unfold lg_cmp
  split
  · rename_i h1
    have := Int64.lt_iff_toInt_lt.mp h1
    exact ⟨fun g => absurd g (by decide), fun g => by omega⟩
  · rename_i h1
    split
    · rename_i h2
      rw [h2]
      exact ⟨fun g => absurd g (by decide), fun g => absurd g (Int.lt_irrefl _)⟩
    · rename_i h2
      refine ⟨fun _ => ?_, fun _ => by decide⟩
      have a1 : ¬ b.toInt < a.toInt := fun g => h1 (Int64.lt_iff_toInt_lt.mpr g)
      have a2 : a.toInt ≠ b.toInt := fun g => h2 (Int64.toInt_inj.mp g)
      omega
theorem lg_gt {a b : Int64} : 0 < lg_cmp a b ↔ b.toInt < a.toInt := by
  unfold lg_cmp
  split
  · rename_i h1
    exact ⟨fun _ => Int64.lt_iff_toInt_lt.mp h1, fun _ => by decide⟩
  · rename_i h1
    have a1 : ¬ b.toInt < a.toInt := fun g => h1 (Int64.lt_iff_toInt_lt.mpr g)
    split
    · exact ⟨fun g => absurd g (by decide), fun g => absurd g a1⟩
    · exact ⟨fun g => absurd g (by decide), fun g => absurd g a1⟩
theorem holds_to {a b : Int64} {σ : CS} {X : Int32 → CS → Prop} (h1 : Hd (gI σ 9) (gI σ 10) (gI σ 11) (gI σ 12) a b → X 1 σ) (h0 : ¬ Hd (gI σ 9) (gI σ 10) (gI σ 11) (gI σ 12) a b → X 0 σ) : wp_ST_holds a b σ X := by
  unfold wp_ST_holds
  simp only [lg_lt, lg_gt, Int32.toInt_toInt64]
  refine ⟨fun g => h0 (fun y => ?_), fun g1 => ⟨fun g => h0 (fun y => ?_), fun g2 => ⟨fun g => h0 (fun y => ?_), fun g3 => ⟨fun g => h0 (fun y => ?_), fun g4 => h1 ⟨by omega, by omega, by omega, by omega⟩⟩⟩⟩⟩
  · have := y.1; omega
  · have := y.2.1; omega
  · have := y.2.2.1; omega
  · have := y.2.2.2; omega
abbrev pl (lo lo2 : Int32) (a b : Int64) : Int32 := (((a - lo.toInt64).toInt32) * 5) + ((b - lo2.toInt64).toInt32)
theorem sub_small {p : Int64} {lo hi : Int32} (h1 : lo.toInt ≤ p.toInt) (h2 : p.toInt ≤ hi.toInt) (h3 : lo.toInt + 4 ≥ hi.toInt) : 0 ≤ ((p - lo.toInt64).toInt32).toInt ∧ ((p - lo.toInt64).toInt32).toInt ≤ 4 ∧ (p - lo.toInt64).toInt = p.toInt - lo.toInt := by
  have e : (p - lo.toInt64).toInt = p.toInt - lo.toInt := by
    rw [Int64.toInt_sub, Int32.toInt_toInt64, Int.bmod_eq_of_le (by omega) (by omega)]
  rw [Int64.toInt_toInt32, e, Int.bmod_eq_of_le (by omega) (by omega)]
  omega
theorem vin {p : Int32} {n : Nat} (h1 : ¬ p < 0) (h2 : p.toInt < n) : vp_in p n := by
  unfold vp_in
  rintro (h | h)
  · exact h1 h
  · have e : p.toNatClampNeg = p.toInt.toNat := rfl
    rw [Int32.lt_iff_toInt_lt] at h1
    have : (0 : Int32).toInt = 0 := rfl
    omega
theorem pl_in {lo hi lo2 hi2 : Int32} {a b : Int64} (h : Hd lo hi lo2 hi2 a b) (g : lo.toInt + 4 ≥ hi.toInt ∧ lo2.toInt + 4 ≥ hi2.toInt ∧ -9 ≤ lo.toInt ∧ hi.toInt ≤ 9 ∧ -9 ≤ lo2.toInt ∧ hi2.toInt ≤ 9) : vp_in (pl lo lo2 a b) 25 ∧ 0 ≤ pl lo lo2 a b := by
  obtain ⟨b1, b2, b3, b4, b5, b6⟩ := g
  obtain ⟨a1, a2, a3, a4⟩ := h
  have s1 := sub_small a1 a2 b1
  have s2 := sub_small a3 a4 b2
  unfold pl
  generalize (a - lo.toInt64).toInt32 = u at s1 ⊢
  generalize (b - lo2.toInt64).toInt32 = v at s2 ⊢
  have e5 : (5 : Int32).toInt = 5 := rfl
  have m : (u * 5 + v).toInt = u.toInt * 5 + v.toInt := by
    rw [Int32.toInt_add, Int32.toInt_mul, e5, Int.bmod_eq_of_le (n := u.toInt * 5) (by omega) (by omega), Int.bmod_eq_of_le (by omega) (by omega)]
  have z : (0 : Int32).toInt = 0 := rfl
  have p0 : ¬ u * 5 + v < 0 := by
    rw [Int32.lt_iff_toInt_lt]
    omega
  exact ⟨vin p0 (by omega), Int32.not_lt.mp p0⟩
theorem sb9 {a : Int64} (h : Sm9 a) : FP.Core.Small53 a := ⟨by have := h.1; omega, by have := h.2; omega⟩
theorem cmp_l {a : Int64} {lo : Int32} (h : FP.Core.Small53 a) : Op.cmpValue (FP.dcmp (FP.l2d a) (FP.i2d lo)) .l < 0 ↔ a.toInt < lo.toInt := by
  have l1 := lo.toInt_lt
  have l2 := lo.le_toInt
  have e : FP.dcmp (FP.l2d a) (FP.i2d lo) = some (if a.toInt < lo.toInt64.toInt then .lt else if a.toInt = lo.toInt64.toInt then .eq else .gt) := by
    have : FP.i2d lo = FP.l2d lo.toInt64 := FP.Core.i2d_l2d lo
    rw [this]
    exact FP.Core.dcmp_l2d h ⟨by rw [Int32.toInt_toInt64]; omega, by rw [Int32.toInt_toInt64]; omega⟩
  rw [e, Int32.toInt_toInt64]
  split
  · exact ⟨fun _ => by assumption, fun _ => by decide⟩
  · split
    · exact ⟨fun g => absurd g (by decide), fun g => by omega⟩
    · exact ⟨fun g => absurd g (by decide), fun g => by omega⟩
theorem cmp_g {a : Int64} {lo : Int32} (h : FP.Core.Small53 a) : 0 < Op.cmpValue (FP.dcmp (FP.l2d a) (FP.i2d lo)) .g ↔ lo.toInt < a.toInt := by
  have l1 := lo.toInt_lt
  have l2 := lo.le_toInt
  have e : FP.dcmp (FP.l2d a) (FP.i2d lo) = some (if a.toInt < lo.toInt64.toInt then .lt else if a.toInt = lo.toInt64.toInt then .eq else .gt) := by
    have : FP.i2d lo = FP.l2d lo.toInt64 := FP.Core.i2d_l2d lo
    rw [this]
    exact FP.Core.dcmp_l2d h ⟨by rw [Int32.toInt_toInt64]; omega, by rw [Int32.toInt_toInt64]; omega⟩
  rw [e, Int32.toInt_toInt64]
  split
  · exact ⟨fun g => absurd g (by decide), fun g => by omega⟩
  · split
    · exact ⟨fun g => absurd g (by decide), fun g => by omega⟩
    · exact ⟨fun _ => by omega, fun _ => by decide⟩
theorem sub_d2i {a : Int64} {lo hi : Int32} (h : FP.Core.Small53 a) (h1 : lo.toInt ≤ a.toInt) (h2 : a.toInt ≤ hi.toInt) (h3 : lo.toInt + 4 ≥ hi.toInt) (h4 : -9 ≤ lo.toInt) (h5 : hi.toInt ≤ 9) : vf_n64 (FP.dsub (FP.l2d a) (FP.i2d lo)) ∧ FP.d2i (FP.dsub (FP.l2d a) (FP.i2d lo)) = (a - lo.toInt64).toInt32 := by
  have e : FP.dsub (FP.l2d a) (FP.i2d lo) = FP.l2d (a - lo.toInt64) := by
    have : FP.i2d lo = FP.l2d lo.toInt64 := FP.Core.i2d_l2d lo
    rw [this]
    exact FP.Core.dsub_l2d h ⟨by rw [Int32.toInt_toInt64]; omega, by rw [Int32.toInt_toInt64]; omega⟩
  have s := sub_small h1 h2 h3
  rw [e]
  exact ⟨fin_no (Jvm.Free.Fl.l2d_fin _), FP.Core.d2i_l2d (by omega) (by omega)⟩
theorem place_to {a b : Int64} {τ : CS} {X : Int32 → CS → Prop} (ha : FP.Core.Small53 a) (hb : FP.Core.Small53 b) (g : (gI τ 1).toInt + 4 ≥ (gI τ 2).toInt ∧ (gI τ 3).toInt + 4 ≥ (gI τ 4).toInt ∧ -9 ≤ (gI τ 1).toInt ∧ (gI τ 2).toInt ≤ 9 ∧ -9 ≤ (gI τ 3).toInt ∧ (gI τ 4).toInt ≤ 9) (h1 : Hd (gI τ 1) (gI τ 2) (gI τ 3) (gI τ 4) a b → X (pl (gI τ 1) (gI τ 3) a b) τ) (h0 : ¬ Hd (gI τ 1) (gI τ 2) (gI τ 3) (gI τ 4) a b → X (-1) τ) : wp_MO_place (FP.l2d a) (FP.l2d b) τ X := by
  obtain ⟨b1, b2, b3, b4, b5, b6⟩ := g
  unfold wp_MO_place
  simp only [← Int32.not_lt (a := 0), cmp_l ha, cmp_l hb, cmp_g ha, cmp_g hb]
  refine ⟨fun g => h0 (fun y => ?_), fun g1 => ⟨fun g => h0 (fun y => ?_), fun g2 => ⟨fun g => h0 (fun y => ?_), fun g3 => ⟨fun g4 => ?_, fun g => h0 (fun y => ?_)⟩⟩⟩⟩
  · have := y.1; omega
  · have := y.2.1; omega
  · have := y.2.2.1; omega
  · have s1 := sub_d2i ha (by omega) (by omega) b1 b3 b4
    have s2 := sub_d2i hb (by omega) (by omega) b2 b5 b6
    refine ⟨s1.1, s2.1, ?_⟩
    rw [s1.2, s2.2, Int32.mul_comm]
    exact h1 ⟨by omega, by omega, by omega, by omega⟩
  · have := y.2.2.2; omega
theorem good_to {x : UInt64} {σ : CS} {X : Int32 → CS → Prop} (h : Wi x) (hX : X 1 σ) : wp_MO_isGood x σ X := sk h.2 (sk h.1 hX)
theorem good_or {x : UInt64} {σ : CS} {X : Int32 → CS → Prop} (h1 : Wi x → X 1 σ) (h0 : ¬ Wi x → X 0 σ) : wp_MO_isGood x σ X :=
  ⟨fun g => h0 (fun w => w.2 g), fun g1 => ⟨fun g => h0 (fun w => w.1 g), fun g2 => h1 ⟨g2, g1⟩⟩⟩
theorem size_or {x : UInt64} {σ : CS} {X : Int32 → CS → Prop} (h1 : Wi x → X 1 σ) (h0 : ¬ Wi x → X 0 σ) : wp_NF_isWithinSize x σ X :=
  ⟨fun g => h0 (fun w => w.1 g), fun g1 => ⟨fun g => h0 (fun w => w.2 g), fun g2 => h1 ⟨g1, g2⟩⟩⟩
theorem limited_or {x : UInt64} {σ : CS} {X : UInt64 → CS → Prop} (h1 : Wi x → X x σ) (h0 : ¬ Wi x → wp_WK_fail 2 σ X) : wp_WK_limited x σ X :=
  size_or (fun w => sk (by decide) (h1 w)) (fun w => tk rfl (h0 w))
section SUM
variable {τ : CS} {a b : UInt64} {X : CS → Prop}
theorem cont_bad {τ : CS} {k : Int32} {v : UInt64} {X : CS → Prop} (hk : k ≠ 0) (hX : X (sI τ 10 k)) : wp_MO_wrong k τ (fun s63 => (((gI s63 10) = 0 → (wp_MO_end v s63 (fun s66 => X s66))) ∧ (¬ (gI s63 10) = 0 → X s63))) := fun s es => by
  subst es
  exact sk (by rw [gI_sI]; exact hk) hX
theorem lim_to {w : UInt64} (h10 : gI τ 10 = 0) (hw : Wi w → wp_MO_end w τ X) (hb : ¬ Wi w → X (sI τ 10 2)) : (((gI τ 10) = 0 → (wp_MO_isGood w τ (fun r56 s57 => ((r56 = 0 → (wp_MO_wrong 2 s57 (fun s63 => (((gI s63 10) = 0 → (wp_MO_end w s63 (fun s66 => X s66))) ∧ (¬ (gI s63 10) = 0 → X s63))))) ∧ (¬ r56 = 0 → (((gI s57 10) = 0 → (wp_MO_end w s57 (fun s61 => X s61))) ∧ (¬ (gI s57 10) = 0 → X s57))))))) ∧ (¬ (gI τ 10) = 0 → (((gI τ 10) = 0 → (wp_MO_end w τ (fun s55 => X s55))) ∧ (¬ (gI τ 10) = 0 → X τ)))) :=
  tk h10 (good_or (fun w => sk (by decide) (tk h10 (hw w))) (fun w => tk rfl (cont_bad (by decide) (hb w))))
theorem sum_3 (h10 : gI τ 10 = 0) (hv : vf_n64 (FP.dadd a b)) (hw : Wi (FP.dadd a b) → wp_MO_end (FP.dadd a b) τ X) (hb : ¬ Wi (FP.dadd a b) → X (sI τ 10 2)) : wp_MO_sum 3 a b τ X :=
  sk (by decide) (sk (by decide) (sk (by decide) (tk rfl ⟨hv, lim_to h10 hw hb⟩)))
theorem sum_4 (h10 : gI τ 10 = 0) (hv : vf_n64 (FP.dsub a b)) (hw : Wi (FP.dsub a b) → wp_MO_end (FP.dsub a b) τ X) (hb : ¬ Wi (FP.dsub a b) → X (sI τ 10 2)) : wp_MO_sum 4 a b τ X :=
  sk (by decide) (sk (by decide) (sk (by decide) (sk (by decide) (tk rfl ⟨hv, lim_to h10 hw hb⟩))))
theorem sum_5 (h10 : gI τ 10 = 0) (hv : vf_n64 (FP.dmul a b)) (hw : Wi (FP.dmul a b) → wp_MO_end (FP.dmul a b) τ X) (hb : ¬ Wi (FP.dmul a b) → X (sI τ 10 2)) : wp_MO_sum 5 a b τ X :=
  sk (by decide) (sk (by decide) (sk (by decide) (sk (by decide) (sk (by decide) (tk rfl ⟨hv, lim_to h10 hw hb⟩)))))
theorem sum_6 (h10 : gI τ 10 = 0) (hz : ¬ Op.cmpValue (FP.dcmp b FP.dconst0) .l = 0) (hv : vf_n64 (FP.ddiv a b)) (hw : Wi (FP.ddiv a b) → wp_MO_end (FP.ddiv a b) τ X) (hb : ¬ Wi (FP.ddiv a b) → X (sI τ 10 2)) : wp_MO_sum 6 a b τ X :=
  sk (by decide) (sk (by decide) (tk rfl (sk hz (sk (by decide) (sk (by decide) (sk (by decide) ⟨hv, lim_to h10 hw hb⟩))))))
theorem sum_6z (hz : Op.cmpValue (FP.dcmp b FP.dconst0) .l = 0) (hX : X (sI τ 10 1)) : wp_MO_sum 6 a b τ X :=
  sk (by decide) (sk (by decide) (tk rfl (tk hz (cont_bad (by decide) hX))))
theorem sum_7 (h10 : gI τ 10 = 0) (ha : Wi a) (hb : Wi b) (hz : lg_cmp (rd b) 0 = 0 → X (sI τ 10 1)) (hn : ¬ lg_cmp (rd b) 0 = 0 → wp_MO_end (FP.l2d (rd a / rd b)) τ X) : wp_MO_sum 7 a b τ X := by
  refine tk rfl (round_to ha (round_to hb ?_))
  rw [d2l_rd (rd_sm ha), d2l_rd (rd_sm hb)]
  exact ⟨fun g => cont_bad (by decide) (hz g), fun g => ⟨fun e => g (by rw [e]; decide), tk h10 (hn g)⟩⟩
theorem sum_8 (h10 : gI τ 10 = 0) (h0 : 0 ≤ Op.cmpValue (FP.dcmp a b) .g → wp_MO_end FP.dconst0 τ X) (h1 : ¬ 0 ≤ Op.cmpValue (FP.dcmp a b) .g → wp_MO_end FP.dconst1 τ X) : wp_MO_sum 8 a b τ X :=
  sk (by decide) (tk rfl ⟨fun g => tk h10 (h0 g), fun g => tk h10 (h1 g)⟩)
end SUM
section TWO
variable {V : VT} {d : Nat} {σ τ : CS} {t : Nat} {n : Int32} {h : Nat} {d0 dp : Int32} {Q : UInt64 → CS → Prop}
theorem m_num (hn : vp_in n 48) (ht : t < 80) (I : In σ) (C : Cm σ) (R : Rdy σ τ t n h d0) (e6 : gI σ 6 = d0) (hk : gA σ 0 n.toNatClampNeg = 0) (q : HQ σ t τ Q) : vf_n64 (FP.ddiv (FP.i2d (gA σ 1 n.toNatClampNeg)) 4620693217682128896) ∧ Q (FP.ddiv (FP.i2d (gA σ 1 n.toNatClampNeg)) 4620693217682128896) σ :=
  ⟨num_no _, q.fin R (Tw.rf _ _) e6 I C ht (num_wi _) (fun X hX => st_0 R.2.1 ht R.hf hn (by rw [R.a0]; exact hk) (num_no _) (by rw [R.a1]; exact hX))⟩
theorem kinds {k : Int32} (h : vp_in k 18) (k0 : ¬ k = 0) (k1 : ¬ k = 1) (k9 : ¬ k = 9) (k10 : ¬ k = 10) (k11 : ¬ k = 11) (k12 : ¬ k = 12) (k13 : ¬ k = 13) (k14 : ¬ k = 14) (k15 : ¬ k = 15) (k16 : ¬ k = 16) (k17 : ¬ k = 17) : k = 2 ∨ k = 3 ∨ k = 4 ∨ k = 5 ∨ k = 6 ∨ k = 7 ∨ k = 8 := by
  have h1 : ¬ k < 0 := fun g => h (Or.inl g)
  have h2 : ¬ 18 ≤ k.toNatClampNeg := fun g => h (Or.inr g)
  rw [Int32.lt_iff_toInt_lt] at h1
  have e : k.toNatClampNeg = k.toInt.toNat := rfl
  have z : (0 : Int32).toInt = 0 := rfl
  simp only [← Int32.toInt_inj] at *
  have e1 : (1 : Int32).toInt = 1 := rfl
  have e2 : (2 : Int32).toInt = 2 := rfl
  have e3 : (3 : Int32).toInt = 3 := rfl
  have e4 : (4 : Int32).toInt = 4 := rfl
  have e5 : (5 : Int32).toInt = 5 := rfl
  have e6 : (6 : Int32).toInt = 6 := rfl
  have e7 : (7 : Int32).toInt = 7 := rfl
  have e8 : (8 : Int32).toInt = 8 := rfl
  have e9 : (9 : Int32).toInt = 9 := rfl
  have e10 : (10 : Int32).toInt = 10 := rfl
  have e11 : (11 : Int32).toInt = 11 := rfl
  have e12 : (12 : Int32).toInt = 12 := rfl
  have e13 : (13 : Int32).toInt = 13 := rfl
  have e14 : (14 : Int32).toInt = 14 := rfl
  have e15 : (15 : Int32).toInt = 15 := rfl
  have e16 : (16 : Int32).toInt = 16 := rfl
  have e17 : (17 : Int32).toInt = 17 := rfl
  omega
theorem pr_step {τ : CS} {X : CS → Prop} (h8 : gI τ 8 = Int32.ofNat (t + 1)) (ht : t < 80) (hf : gA τ 11 t = n) (hn : vp_in n 48) (hk : gA τ 0 n.toNatClampNeg = 2 ∨ gA τ 0 n.toNatClampNeg = 3 ∨ gA τ 0 n.toNatClampNeg = 4 ∨ gA τ 0 n.toNatClampNeg = 5 ∨ gA τ 0 n.toNatClampNeg = 6 ∨ gA τ 0 n.toNatClampNeg = 7 ∨ gA τ 0 n.toNatClampNeg = 8) (hX : wp_MO_pair (Int32.ofNat t) n τ X) : wp_MO_step τ X := by
  rcases hk with hk | hk | hk | hk | hk | hk | hk <;> exact st_pair h8 ht hf hn (k_ne hk (by decide)) (k_ne hk (by decide)) (k_ne hk (by decide)) (k_ne hk (by decide)) (k_ne hk (by decide)) (k_ne hk (by decide)) (k_ne hk (by decide)) (k_ne hk (by decide)) (k_ne hk (by decide)) (k_ne hk (by decide)) (k_ne hk (by decide)) hX
theorem m_two (hV : VS V d) (hn : vp_in n 48) (hh : hv σ h) (hdp : dp = Int32.ofNat (t + 1)) (hd : t + d = 80) (ht : t < 80) (I : In σ) (C : Cm σ) (R : Rdy σ τ t n h d0) (e6 : gI σ 6 = d0) (h13 : gA τ 13 t = 0) (hk : gA σ 0 n.toNatClampNeg = 2 ∨ gA σ 0 n.toNatClampNeg = 3 ∨ gA σ 0 n.toNatClampNeg = 4 ∨ gA σ 0 n.toNatClampNeg = 5 ∨ gA σ 0 n.toNatClampNeg = 6 ∨ gA σ 0 n.toNatClampNeg = 7 ∨ gA σ 0 n.toNatClampNeg = 8) (ha : vp_in (gA σ 1 n.toNatClampNeg) 48) (hb : vp_in (gA σ 2 n.toNatClampNeg) 48) (q : HQ σ t τ Q) : wp_WK_ofTwo V n h dp σ Q := by
  have k17 : gA σ 0 n.toNatClampNeg ≠ 17 := by
    rcases hk with hk | hk | hk | hk | hk | hk | hk <;> (rw [hk]; decide)
  refine ⟨hv9 hh, hn, child hV q R hn k17 hd I C T13 ha hh hdp ht (fun X hX => pr_step R.2.1 ht R.hf hn (by rw [R.a0]; exact hk) (pr_0 ht hn h13 (by rw [R.a1, R.he]; exact hX))) (fun r s τ' wr fs C2 wk q2 R2 kp vx => leave_of (fun _ _ => tk rfl ⟨hn, ?_⟩) (fun hl => nl C2 hl)) (fun r s wr hl hq => leave_of (fun a b => lv hl a b) (fun _ => sk (by decide) (hq _ wi0)))⟩
  have p2 : gA s 0 n.toNatClampNeg = gA σ 0 n.toNatClampNeg := by rw [fs.1.1]
  refine child hV q2 R2 hn (by rw [p2]; exact k17) hd (fs.inv I) C2 ((T13 (v := 2)).tr (T4 (τ := sA τ' 13 (upd (gA τ' 13) t 2)) (v := r))) (by rw [fs.1.2.2.1]; exact hb) (fs.vh hh) hdp ht (fun X hX => pr_step R2.2.1 ht R2.hf hn (by rw [R2.a0, p2]; exact hk) (pr_1 ht hn (stg kp s13) (by rw [R2.a2, R2.he, vx]; exact hX))) (fun r2 s2 τ2 wr2 fs2 C3 wk2 q3 R3 kp2 vx2 => leave_of (fun _ _ => tk rfl ⟨hn, ?_⟩) (fun hl => nl C3 hl)) (fun r s wr hl hq => leave_of (fun a b => lv hl a b) (fun _ => sk (by decide) (hq _ wi0)))
  have ft := fs.tr fs2
  have p3 : gA s2 0 n.toNatClampNeg = gA σ 0 n.toNatClampNeg := by rw [ft.1.1]
  have I3 := ft.inv I
  have g13 : gA τ2 13 t = 2 := by
    rw [kp2.1 13 (by omega) (by omega) t (by omega)]
    show gA (sA τ' 13 _) 13 t = 2
    exact s13
  have g4 : gD τ2 4 t = r := by
    rw [kp2.2 4 (by omega) (by omega) t (by omega)]
    show gD (sD _ 4 (vf_upd _ t r)) 4 t = r
    rw [gD_sD, vfu_self]
  have e6' : gI s2 6 = d0 := by rw [ft.2.2.1]; exact e6
  have st : ∀ X, wp_MO_pair (Int32.ofNat t) n τ2 X → wp_MO_step τ2 X := fun X hX => pr_step R3.2.1 ht R3.hf hn (by rw [R3.a0, p3]; exact hk) hX
  have sm : ∀ X, ¬ gA σ 0 n.toNatClampNeg = 2 → wp_MO_sum (gA σ 0 n.toNatClampNeg) r r2 (sA τ2 13 (upd (gA τ2 13) t 3)) X → wp_MO_step τ2 X := fun X h2 hX => st X (pr_2 ht hn g13 (by rw [R3.a0, p3]; exact h2) (by rw [R3.a0, p3, g4, vx2]; exact hX))
  have R10 : gI (sA τ2 13 (upd (gA τ2 13) t 3)) 10 = 0 := R3.1.2.2.2.1
  have f1 := wi_fin wr
  have f2 := wi_fin wr2
  rw [p3]
  rcases hk with hk | hk | hk | hk | hk | hk | hk
  · rw [hk]
    refine tk rfl (rounded_to wr (rounded_to wr2 ?_))
    have bd := I3.2.1.2.2.2.2.2
    obtain ⟨-, i1, i2, i3, i4⟩ := R3.1.1.2.1
    have rr : ∀ X, (wp_MO_place (FP.l2d (rd r)) (FP.l2d (rd r2)) (sA τ2 13 (upd (gA τ2 13) t 3)) (fun r9 s10 => ((0 ≤ r9 → (vp_in r9 25 ∧ (wp_MO_end (gD s10 1 r9.toNatClampNeg) s10 X))) ∧ (¬ 0 ≤ r9 → (wp_MO_wrong 3 s10 X))))) → wp_MO_step τ2 X := fun X hX => st X (pr_2e ht hn g13 (by rw [R3.a0, p3]; exact hk) (by
      rw [g4]
      refine round_to wr ?_
      show wp_MO_round (gX τ2 0) _ _
      rw [vx2]
      exact round_to wr2 hX))
    have bt : ∀ X, (Hd (gI s2 9) (gI s2 10) (gI s2 11) (gI s2 12) (rd r) (rd r2) → X (pl (gI s2 9) (gI s2 11) (rd r) (rd r2)) (sA τ2 13 (upd (gA τ2 13) t 3))) → (¬ Hd (gI s2 9) (gI s2 10) (gI s2 11) (gI s2 12) (rd r) (rd r2) → X (-1) (sA τ2 13 (upd (gA τ2 13) t 3))) → wp_MO_place (FP.l2d (rd r)) (FP.l2d (rd r2)) (sA τ2 13 (upd (gA τ2 13) t 3)) X := fun X y1 y0 => by
      refine place_to (sb9 (rd_sm wr)) (sb9 (rd_sm wr2)) ?_ ?_ ?_
      · show (gI τ2 1).toInt + 4 ≥ (gI τ2 2).toInt ∧ (gI τ2 3).toInt + 4 ≥ (gI τ2 4).toInt ∧ -9 ≤ (gI τ2 1).toInt ∧ (gI τ2 2).toInt ≤ 9 ∧ -9 ≤ (gI τ2 3).toInt ∧ (gI τ2 4).toInt ≤ 9
        rw [i1, i2, i3, i4]; exact bd
      · show Hd (gI τ2 1) (gI τ2 2) (gI τ2 3) (gI τ2 4) _ _ → X (pl (gI τ2 1) (gI τ2 3) _ _) _
        rw [i1, i2, i3, i4]; exact y1
      · show ¬ Hd (gI τ2 1) (gI τ2 2) (gI τ2 3) (gI τ2 4) _ _ → _
        rw [i1, i2, i3, i4]; exact y0
    refine holds_to (fun hd1 => sk (by decide) ?_) (fun hd0 => tk rfl ?_)
    · obtain ⟨pin, p0⟩ := pl_in hd1 bd
      refine ⟨pin, q3.fin R3 (T13 (v := 3)) e6' I3 C3 ht (I3.2.1.2.2.2.1 _) (fun X hX => rr X (bt _ (fun _ => tk p0 ⟨pin, ?_⟩) (fun hd0 => absurd hd1 hd0)))⟩
      show wp_MO_end (gD τ2 1 _) _ X
      rw [R3.1.1.2.2.2]
      exact hX
    · exact q3.fail R3 (T13 (v := 3)) I3 C3 ht (by decide) (k' := 3) (by decide) (fun X hX => rr X (bt _ (fun hd1 => absurd hd1 hd0) (fun _ => sk (by decide) hX)))
  · rw [hk] at sm ⊢
    exact sk (by decide) (tk rfl ⟨Jvm.Free.Fl.dadd_out (fin_no f1) f2, limited_or (fun w => q3.fin R3 (T13 (v := 3)) e6' I3 C3 ht w (fun X hX => sm X (by decide) (sum_3 R10 (Jvm.Free.Fl.dadd_out (fin_no f1) f2) (fun _ => hX) (fun g => absurd w g)))) (fun w => q3.fail R3 (T13 (v := 3)) I3 C3 ht (by decide) (k' := 2) (by decide) (fun X hX => sm X (by decide) (sum_3 R10 (Jvm.Free.Fl.dadd_out (fin_no f1) f2) (fun g => absurd g w) (fun _ => hX _ rfl))))⟩)
  · rw [hk] at sm ⊢
    exact sk (by decide) (sk (by decide) (tk rfl ⟨Jvm.Free.Fl.dsub_out (fin_no f1) f2, limited_or (fun w => q3.fin R3 (T13 (v := 3)) e6' I3 C3 ht w (fun X hX => sm X (by decide) (sum_4 R10 (Jvm.Free.Fl.dsub_out (fin_no f1) f2) (fun _ => hX) (fun g => absurd w g)))) (fun w => q3.fail R3 (T13 (v := 3)) I3 C3 ht (by decide) (k' := 2) (by decide) (fun X hX => sm X (by decide) (sum_4 R10 (Jvm.Free.Fl.dsub_out (fin_no f1) f2) (fun g => absurd g w) (fun _ => hX _ rfl))))⟩))
  · rw [hk] at sm ⊢
    exact sk (by decide) (sk (by decide) (sk (by decide) (tk rfl ⟨Jvm.Free.Fl.dmul_out f1 f2, limited_or (fun w => q3.fin R3 (T13 (v := 3)) e6' I3 C3 ht w (fun X hX => sm X (by decide) (sum_5 R10 (Jvm.Free.Fl.dmul_out f1 f2) (fun _ => hX) (fun g => absurd w g)))) (fun w => q3.fail R3 (T13 (v := 3)) I3 C3 ht (by decide) (k' := 2) (by decide) (fun X hX => sm X (by decide) (sum_5 R10 (Jvm.Free.Fl.dmul_out f1 f2) (fun g => absurd g w) (fun _ => hX _ rfl))))⟩)))
  · rw [hk] at sm ⊢
    refine sk (by decide) (sk (by decide) (sk (by decide) (sk (by decide) (tk rfl ⟨fun hz => ?_, fun hz => ?_⟩))))
    · exact q3.fail R3 (T13 (v := 3)) I3 C3 ht (by decide) (k' := 1) (by decide) (fun X hX => sm X (by decide) (sum_6z hz (hX _ rfl)))
    · have dv := Jvm.Free.Fl.ddiv_out (fin_no f1) f2 (nz_of f2 hz)
      exact ⟨dv, limited_or (fun w => q3.fin R3 (T13 (v := 3)) e6' I3 C3 ht w (fun X hX => sm X (by decide) (sum_6 R10 hz dv (fun _ => hX) (fun g => absurd w g)))) (fun w => q3.fail R3 (T13 (v := 3)) I3 C3 ht (by decide) (k' := 2) (by decide) (fun X hX => sm X (by decide) (sum_6 R10 hz dv (fun g => absurd g w) (fun _ => hX _ rfl))))⟩
  · rw [hk] at sm ⊢
    refine sk (by decide) (sk (by decide) (sk (by decide) (sk (by decide) (sk (by decide) (tk rfl (rounded_to wr (rounded_to wr2 ⟨fun hz => ?_, fun hz => ⟨fun e => hz (by rw [e]; decide), ?_⟩⟩)))))))
    · exact q3.fail R3 (T13 (v := 3)) I3 C3 ht (by decide) (k' := 1) (by decide) (fun X hX => sm X (by decide) (sum_7 R10 wr wr2 (fun _ => hX _ rfl) (fun g => absurd hz g)))
    · exact q3.fin R3 (T13 (v := 3)) e6' I3 C3 ht (wi_l2d (div_sm (rd_sm wr))) (fun X hX => sm X (by decide) (sum_7 R10 wr wr2 (fun g => absurd g hz) (fun _ => hX)))
  · rw [hk] at sm ⊢
    refine sk (by decide) (sk (by decide) (sk (by decide) (sk (by decide) (sk (by decide) (sk (by decide) ⟨fun hz => ?_, fun hz => ?_⟩)))))
    · exact q3.fin R3 (T13 (v := 3)) e6' I3 C3 ht wi0 (fun X hX => sm X (by decide) (sum_8 R10 (fun _ => hX) (fun g => absurd hz g)))
    · exact q3.fin R3 (T13 (v := 3)) e6' I3 C3 ht wi1 (fun X hX => sm X (by decide) (sum_8 R10 (fun g => absurd g hz) (fun _ => hX)))
end TWO
theorem sI_self {s : CS} {k : Nat} : sI s k (gI s k) = s := by
  refine Prod.ext ?_ rfl
  funext j
  show va_up s.1 k _ j = _
  by_cases e : j = k
  · rw [e, va_up_self]; rfl
  · rw [va_up_ne _ _ e]
theorem sI_sI {s : CS} {k : Nat} {v w : Int32} : sI (sI s k v) k w = sI s k w := by
  refine Prod.ext ?_ rfl
  funext j
  show va_up (va_up s.1 k v) k w j = va_up s.1 k w j
  by_cases e : j = k
  · rw [e, va_up_self, va_up_self]
  · rw [va_up_ne _ _ e, va_up_ne _ _ e, va_up_ne _ _ e]
def KX (p1 : Int32) (Q : CS → Prop) (s20 : CS) : Prop := (((gI s20 10) ≤ 0 → (vp_in p1 310 ∧ (vp_in (gA s20 16 p1.toNatClampNeg) 48 ∧ (((gA s20 0 ((gA s20 16 p1.toNatClampNeg).toNatClampNeg)) = 2 → (vp_in p1 310 ∧ (∀ s23 : CS, s23 = sA s20 13 (upd (gA s20 13) p1.toNatClampNeg 2) → (vp_in p1 310 ∧ (vp_in (gA s23 16 p1.toNatClampNeg) 48 ∧ (vp_in p1 310 ∧ (wp_MO_enter (gA s23 1 ((gA s23 16 p1.toNatClampNeg).toNatClampNeg)) (gA s23 17 p1.toNatClampNeg) s23 (fun s25 => Q s25)))))))) ∧ (¬ (gA s20 0 ((gA s20 16 p1.toNatClampNeg).toNatClampNeg)) = 2 → (wp_MO_become p1 s20 (fun s27 => Q s27))))))) ∧ (¬ (gI s20 10) ≤ 0 → Q s20))
def FW (p1 : Int32) (Q : CS → Prop) (τ : CS) : Prop := wp_MO_follow p1 τ (KX p1 Q)
theorem fw_fault {τ : CS} {p1 : Int32} {X : CS → Prop} (h : ¬ gI τ 10 ≤ 0) (hX : X τ) : FW p1 X τ := by
  refine ⟨0 + 1, ?_⟩
  unfold lp_MO_follow_0
  refine sk (fun e => h (by rw [e]; decide)) ?_
  unfold KX
  exact sk h hX
section FOLLOW
variable {τ : CS} {t : Nat} {g : Int32} {X : CS → Prop}
theorem fw_end (ht : t < 80) (h10 : gI τ 10 = 0) (h16 : gA τ 16 t = g) (hg : vp_in g 48) (hk : ¬ gA τ 0 g.toNatClampNeg = 10) (hX : KX (Int32.ofNat t) X τ) : FW (Int32.ofNat t) X τ := by
  have e2 : (Int32.ofNat t).toNatClampNeg = t := t_nat (by omega)
  have e3 : vp_in (Int32.ofNat t) 310 := t_in (by omega) (by omega)
  refine ⟨0 + 1, ?_⟩
  unfold lp_MO_follow_0
  simp only [e2, h16]
  exact tk h10 ⟨e3, hg, sk hk hX⟩
theorem goal_to {k : Int32} {X : Int32 → CS → Prop} (h : k = 1 ∨ k = 2 ∨ k = 10 ∨ k = 11) (hX : X 1 τ) : wp_MO_isGoal k τ X := by
  rcases h with h | h | h | h <;> subst h
  · exact tk rfl hX
  · exact sk (by decide) (tk rfl hX)
  · exact sk (by decide) (sk (by decide) (tk rfl hX))
  · exact sk (by decide) (sk (by decide) (sk (by decide) (tk rfl hX)))
theorem goal_no {k : Int32} {X : Int32 → CS → Prop} (h : ¬ (k = 1 ∨ k = 2 ∨ k = 10 ∨ k = 11)) (hX : X 0 τ) : wp_MO_isGoal k τ X :=
  sk (fun g => h (Or.inl g)) (sk (fun g => h (Or.inr (Or.inl g))) (sk (fun g => h (Or.inr (Or.inr (Or.inl g)))) (sk (fun g => h (Or.inr (Or.inr (Or.inr g)))) hX)))
theorem vp_ge {y : Int32} {N : Nat} (h : vp_in y N) : 0 ≤ y := Int32.not_lt.mp (fun g => h (Or.inl g))
theorem fw_p0 (ht : t < 80) (h10 : gI τ 10 = 0) (h16 : gA τ 16 t = g) (hg : vp_in g 48) (hk : gA τ 0 g.toNatClampNeg = 10) {e a : Int32} (h17 : gA τ 17 t = e) (ha : gA τ 1 g.toNatClampNeg = a) (hl : e ≤ 0 ∨ (¬ e ≤ 0 ∧ vp_in e 10 ∧ gA τ 9 e.toNatClampNeg ≤ a)) (hX : X (sI τ 10 4)) : FW (Int32.ofNat t) X τ := by
  have e2 : (Int32.ofNat t).toNatClampNeg = t := t_nat (by omega)
  have e3 : vp_in (Int32.ofNat t) 310 := t_in (by omega) (by omega)
  obtain ⟨fu, hF⟩ : FW (Int32.ofNat t) X (sI τ 10 4) := fw_fault (by rw [gI_sI]; decide) hX
  refine ⟨fu + 1, ?_⟩
  unfold lp_MO_follow_0
  simp only [e2, h16, h17, ha]
  refine tk h10 ⟨e3, hg, tk hk ⟨e3, e3, hg, ?_⟩⟩
  rcases hl with hl | ⟨p1, p2, hl⟩
  · exact tk hl (tk rfl (fun s es => by rw [es]; exact hF))
  · exact sk p1 ⟨p2, tk hl (tk rfl (fun s es => by rw [es]; exact hF))⟩
theorem fw_pv (ht : t < 80) (h10 : gI τ 10 = 0) (h16 : gA τ 16 t = g) (hg : vp_in g 48) (hk : gA τ 0 g.toNatClampNeg = 10) {e a : Int32} (h17 : gA τ 17 t = e) (ha : gA τ 1 g.toNatClampNeg = a) (p1 : ¬ e ≤ 0) (p2 : vp_in e 10) (hl : ¬ gA τ 9 e.toNatClampNeg ≤ a) (hb : ¬ bit (gA τ 10 e.toNatClampNeg) a) (hX : KX (Int32.ofNat t) X τ) : FW (Int32.ofNat t) X τ := by
  have e2 : (Int32.ofNat t).toNatClampNeg = t := t_nat (by omega)
  have e3 : vp_in (Int32.ofNat t) 310 := t_in (by omega) (by omega)
  refine ⟨0 + 1, ?_⟩
  unfold lp_MO_follow_0
  simp only [e2, h16, h17, ha]
  exact tk h10 ⟨e3, hg, tk hk ⟨e3, e3, hg, sk p1 ⟨p2, sk hl (sk (by decide) ⟨p2, sk hb (tk rfl hX)⟩)⟩⟩⟩
theorem fw_p6 (ht : t < 80) (h10 : gI τ 10 = 0) (h16 : gA τ 16 t = g) (hg : vp_in g 48) (hk : gA τ 0 g.toNatClampNeg = 10) {e a : Int32} (h17 : gA τ 17 t = e) (ha : gA τ 1 g.toNatClampNeg = a) (p1 : ¬ e ≤ 0) (p2 : vp_in e 10) (hl : ¬ gA τ 9 e.toNatClampNeg ≤ a) (hb : bit (gA τ 10 e.toNatClampNeg) a) (x1 : vp_in ((2 * e) + a) 20) {y : Int32} (hy : gA τ 7 ((2 * e) + a).toNatClampNeg = y) (hv : vp_in y 48) (gl : ¬ (gA τ 0 y.toNatClampNeg = 1 ∨ gA τ 0 y.toNatClampNeg = 2 ∨ gA τ 0 y.toNatClampNeg = 10 ∨ gA τ 0 y.toNatClampNeg = 11)) (hX : X (sI τ 10 6)) : FW (Int32.ofNat t) X τ := by
  have e2 : (Int32.ofNat t).toNatClampNeg = t := t_nat (by omega)
  have e3 : vp_in (Int32.ofNat t) 310 := t_in (by omega) (by omega)
  obtain ⟨fu, hF⟩ : FW (Int32.ofNat t) X (sI τ 10 6) := fw_fault (by rw [gI_sI]; decide) hX
  refine ⟨fu + 1, ?_⟩
  unfold lp_MO_follow_0
  simp only [e2, h16, h17, ha]
  refine tk h10 ⟨e3, hg, tk hk ⟨e3, e3, hg, sk p1 ⟨p2, sk hl (sk (by decide) ⟨p2, tk hb (sk (by decide) ⟨x1, tk ?_ ⟨x1, ?_, ?_⟩⟩)⟩)⟩⟩⟩
  · rw [hy]; exact vp_ge hv
  · rw [hy]; exact hv
  · rw [hy]
    exact goal_no gl (tk rfl (fun s es => by rw [es]; exact hF))
theorem fw_p7 (ht : t < 80) (h10 : gI τ 10 = 0) (h16 : gA τ 16 t = g) (hg : vp_in g 48) (hk : gA τ 0 g.toNatClampNeg = 10) {e a : Int32} (h17 : gA τ 17 t = e) (ha : gA τ 1 g.toNatClampNeg = a) (p1 : ¬ e ≤ 0) (p2 : vp_in e 10) (hl : ¬ gA τ 9 e.toNatClampNeg ≤ a) (hb : bit (gA τ 10 e.toNatClampNeg) a) (x1 : vp_in ((2 * e) + a) 20) {y : Int32} (hy : gA τ 7 ((2 * e) + a).toNatClampNeg = y) (hv : vp_in y 48) (gl : gA τ 0 y.toNatClampNeg = 1 ∨ gA τ 0 y.toNatClampNeg = 2 ∨ gA τ 0 y.toNatClampNeg = 10 ∨ gA τ 0 y.toNatClampNeg = 11) (h7 : gI τ 7 = 8) (hX : X (sA (sA (sI τ 10 7) 16 (upd (gA τ 16) t y)) 17 (upd (gA τ 17) t (gA τ 8 ((2 * e) + a).toNatClampNeg)))) : FW (Int32.ofNat t) X τ := by
  have e2 : (Int32.ofNat t).toNatClampNeg = t := t_nat (by omega)
  have e3 : vp_in (Int32.ofNat t) 310 := t_in (by omega) (by omega)
  obtain ⟨fu, hF⟩ : FW (Int32.ofNat t) X (sA (sA (sI τ 10 7) 16 (upd (gA τ 16) t y)) 17 (upd (gA τ 17) t (gA τ 8 ((2 * e) + a).toNatClampNeg))) := fw_fault (by rw [gI_sA, gI_sA, gI_sI]; decide) hX
  refine ⟨fu + 1, ?_⟩
  unfold lp_MO_follow_0
  simp only [e2, h16, h17, ha]
  refine tk h10 ⟨e3, hg, tk hk ⟨e3, e3, hg, sk p1 ⟨p2, sk hl (sk (by decide) ⟨p2, tk hb (sk (by decide) ⟨x1, tk ?_ ⟨x1, ?_, ?_⟩⟩)⟩)⟩⟩⟩
  · rw [hy]; exact vp_ge hv
  · rw [hy]; exact hv
  · rw [hy]
    refine goal_to gl (sk (by decide) (deeper_no h7 ⟨x1, e3, fun s es => ⟨x1, e3, fun s2 es2 => ?_⟩⟩))
    simp only [gA_sI, hy] at es
    subst es2 es
    rw [gA_s (by decide), gA_s (by decide)]
    exact hF
theorem fw_pn (ht : t < 80) (h10 : gI τ 10 = 0) (h16 : gA τ 16 t = g) (hg : vp_in g 48) (hk : gA τ 0 g.toNatClampNeg = 10) {e a : Int32} (h17 : gA τ 17 t = e) (ha : gA τ 1 g.toNatClampNeg = a) (p1 : ¬ e ≤ 0) (p2 : vp_in e 10) (hl : ¬ gA τ 9 e.toNatClampNeg ≤ a) (hb : bit (gA τ 10 e.toNatClampNeg) a) (x1 : vp_in ((2 * e) + a) 20) {y : Int32} (hy : gA τ 7 ((2 * e) + a).toNatClampNeg = y) (hv : vp_in y 48) (gl : gA τ 0 y.toNatClampNeg = 1 ∨ gA τ 0 y.toNatClampNeg = 2 ∨ gA τ 0 y.toNatClampNeg = 10 ∨ gA τ 0 y.toNatClampNeg = 11) (h7 : ¬ gI τ 7 = 8) : ∃ m, ∀ X, FW (Int32.ofNat t) X (sA (sA (sI (sI τ 7 (gI τ 7 + 1)) 12 m) 16 (upd (gA τ 16) t y)) 17 (upd (gA τ 17) t (gA τ 8 ((2 * e) + a).toNatClampNeg))) → FW (Int32.ofNat t) X τ := by
  have e2 : (Int32.ofNat t).toNatClampNeg = t := t_nat (by omega)
  have e3 : vp_in (Int32.ofNat t) 310 := t_in (by omega) (by omega)
  obtain ⟨m, hm⟩ := deeper_to h7
  refine ⟨m, fun X hX => ?_⟩
  obtain ⟨fu, hF⟩ := hX
  refine ⟨fu + 1, ?_⟩
  unfold lp_MO_follow_0
  simp only [e2, h16, h17, ha]
  refine tk h10 ⟨e3, hg, tk hk ⟨e3, e3, hg, sk p1 ⟨p2, sk hl (sk (by decide) ⟨p2, tk hb (sk (by decide) ⟨x1, tk ?_ ⟨x1, ?_, ?_⟩⟩)⟩)⟩⟩⟩
  · rw [hy]; exact vp_ge hv
  · rw [hy]; exact hv
  · rw [hy]
    refine goal_to gl (sk (by decide) (hm _ ⟨x1, e3, fun s es => ⟨x1, e3, fun s2 es2 => ?_⟩⟩))
    simp only [gA_sI, hy] at es
    subst es2 es
    rw [gA_s (by decide), gA_s (by decide)]
    exact hF
end FOLLOW
abbrev Gl (k : Int32) : Prop := k = 1 ∨ k = 2 ∨ k = 10 ∨ k = 11
def HB (σ : CS) (t : Nat) (τ : CS) (d0 : Int32) (Q : UInt64 → CS → Prop) : Prop := ∀ r s τ', Wi r → Fr σ s → (∃ τ1, (∀ X : CS → Prop, X τ1 → FW (Int32.ofNat t) X τ) ∧ Gos τ1 τ') → Out (gI σ 0).toInt σ t τ r (sI s 6 d0) τ' → Q r s
def BS (B : BT) (d k : Nat) : Prop := ∀ (g : Int32) (v : UInt64) (h' : Nat) (dp : Int32) (σ τ : CS) (t : Nat) (Q : UInt64 → CS → Prop) (n : Int32) (h : Nat) (d0 : Int32), vp_in g 48 → Wi v → hv σ h' → vp_in n 48 → dp = Int32.ofNat (t + 1) → t + d = 80 → t < 80 → In σ → Cm σ → gA σ 0 n.toNatClampNeg = 13 → 9 ≤ (gI σ 6).toInt + k →
  ((¬ Gl (gA σ 0 g.toNatClampNeg) ∧ Q FP.dconst0 (sI σ 1 6)) ∨ (Gl (gA σ 0 g.toNatClampNeg) ∧ gA τ 16 t = g ∧ gA τ 17 t = en h' ∧ gD τ 4 t = v ∧ gA τ 13 t = 1 ∧ Rdy σ τ t n h d0 ∧ HB σ t τ d0 Q)) → B g v h' dp σ Q
theorem out_6 {w : Int} {σ τ s τ' : CS} {t : Nat} {r : UInt64} {d0 : Int32} (o : Out w σ t τ r s τ') (hl : gI s 1 ≠ 0 ∨ gI s 7 ≠ -1) : Out w σ t τ r (sI s 6 d0) τ' := by
  rcases o with ⟨o1, o2, -⟩ | ⟨o1, o2, o3, o4, o5⟩ | ⟨o1, a, o2, o3, o4, o5, j1, j2, j3, j4, j5⟩
  · exact nl ⟨o1, o2⟩ hl
  · exact Or.inr (Or.inl ⟨by rw [gI_s (by decide)]; exact o1, by rw [gI_s (by decide)]; exact o2, o3, o4.ci (by decide), o5.ci (by decide)⟩)
  · exact Or.inr (Or.inr ⟨by rw [gI_s (by decide)]; exact o1, a, by rw [gI_s (by decide)]; exact o2, o3, o4, o5, j1.ci (by decide), j2.ci (by decide), by rw [gI_s (by decide)]; exact j3, j4, j5⟩)
theorem child0 {V : VT} {d : Nat} (hV : VS V d) {σ τ2 : CS} {t : Nat} {n : Int32} {h : Nat} {d0 : Int32} (R2 : Rdy σ τ2 t n h d0) (hn : vp_in n 48) (hk : gA σ 0 n.toNatClampNeg ≠ 17) (hd : t + d = 80) (I : In σ) (C : Cm σ) {c : Int32} {h' : Nat} (hc : vp_in c 48) (hh : hv σ h') {dp : Int32} (hdp : dp = Int32.ofNat (t + 1)) (ht : t < 80) {Q : UInt64 → CS → Prop}
    (hN : ∀ r s τ', Wi r → Fr σ s → Cm s → (gI σ 0).toInt + 1 ≤ (gI s 0).toInt → Ent c (en h') τ2 τ' → Rdy s τ' t n h d0 → Kp τ2 τ' (t + 1) → gX τ' 0 = r → Q r s)
    (hL : ∀ r s τ', Wi r → Fr σ s → (gI s 1 ≠ 0 ∨ gI s 7 ≠ -1) → Ent c (en h') τ2 τ' → (∀ w r' σ0 τ0, gA σ 7 = gA σ0 7 → Kp τ0 τ2 t → Out w σ0 t τ0 r' s τ') → Q r s) : V c h' (dp + 1) σ Q := by
  refine hV c h' (dp + 1) σ τ2 (t + 1) Q hc hh (by rw [hdp]; exact t_add (by omega)) (by omega) I C (R2.rl hn hk) (fun r s τ' wr fs en ou => ?_)
  by_cases hl : gI s 1 ≠ 0 ∨ gI s 7 ≠ -1
  · refine hL r s τ' wr fs hl en (fun w r' σ0 τ0 e7 K => out_leave ou hl e7 K R2.2.2.2.2.2.2.1 hn (fun a _ m => ?_))
    rw [fs.1.1] at m
    exact hk m.1
  · have C2 : Cm s := ⟨Decidable.byContradiction (fun e => hl (Or.inl e)), Decidable.byContradiction (fun e => hl (Or.inr e))⟩
    rcases ou with ⟨-, -, o3, o4, o5, o6⟩ | o | ⟨-, a, o2, o3, -⟩
    · exact hN r s τ' wr fs C2 o3 en (R2.nx fs o4 o6) o6 o5
    · exact absurd C2.1 o.1
    · exact absurd (o2 ▸ C2.2) (vp4_ne o3)
section BECOME
variable {V : VT} {B : BT} {d k : Nat} {σ τ : CS} {t : Nat} {n : Int32} {h : Nat} {d0 dp : Int32} {Q : UInt64 → CS → Prop}
theorem HB.fini (q : HB σ t τ d0 Q) {s τ2 : CS} (f : Fr σ s) (hb : Rb s τ2 t) (h8 : gI τ2 8 = Int32.ofNat (t + 1)) (h14 : gA τ2 14 t = d0) (h15 : gA τ2 15 t = gI s 5) (K : Kp τ τ2 t) (C : Cm s) (ht : t < 80) {v : UInt64} (wv : Wi v) (hs : ∀ X, wp_MO_end v τ2 X → FW (Int32.ofNat t) X τ) : Q v s := by
  obtain ⟨b1, b2, b3, b4, b5, b6⟩ := hb
  have hb' : Rb (sI s 6 d0) τ2 t := ⟨b1.ci (by decide), b2.ci (by decide), by rw [gI_s (by decide)]; exact b3, b4, b5, b6⟩
  have hd' : Fdn (sI s 6 d0) τ2 t := ⟨h8, by rw [gI_sI]; exact h14, by rw [gI_s (by decide)]; exact h15⟩
  obtain ⟨d1, d2, d3⟩ := done_of hb' hd' v
  refine q v s (DT v τ2 t) wv f ⟨DT v τ2 t, fun X hX => hs X (end_to h8 (by omega) X hX), Gos.rf _⟩ (Or.inl ⟨by rw [gI_s (by decide)]; exact C.1, by rw [gI_s (by decide)]; exact C.2, by rw [gI_s (by decide)]; exact f.2.2.2.2.2.2.2, d1, d2, K.tr d3⟩)
theorem HB.bad (q : HB σ t τ d0 Q) (I : In σ) (C : Cm σ) {τ2 : CS} (l : Lk σ τ2) (e : En σ τ2) {k : Int32} (hk : k ≠ 0) (h10 : gI τ2 10 ≠ 0) (hs : ∀ X : CS → Prop, X τ2 → FW (Int32.ofNat t) X τ) {r : UInt64} (wr : Wi r) : Q r (sI σ 1 k) := by
  refine q r (sI σ 1 k) τ2 wr (Fr_sI (by decide) (by decide) (by decide) (by decide) I) ⟨τ2, hs, Gos.rf _⟩ (Or.inr (Or.inl ⟨?_, ?_, h10, (l.ci (by decide)).ci (by decide), (e.ci (by decide)).ci (by decide)⟩))
  · rw [gI_s (by decide), gI_sI]; exact hk
  · rw [gI_s (by decide), gI_s (by decide)]; exact C.2
theorem Fr_D {σ : CS} {j : Nat} {v : Nat → UInt64} (I : In σ) (he : EI (sD σ j v)) : Fr σ (sD σ j v) := ⟨Pg.rf _, rfl, rfl, rfl, fun _ h => h, he, I.2.2.2, Int.le_refl _⟩
theorem EI_D0 {j : Nat} {v : UInt64} (he : EI σ) (hv : Wi v) : EI (sD σ 0 (vf_upd (gD σ 0) j v)) := by
  obtain ⟨h0, h1, h2, h3, h4, h5⟩ := he
  refine ⟨h0, h1, fun i => ?_, h3, fun h h9 i => ?_, h5⟩
  · rw [gD_sD]
    unfold vf_upd
    split
    · exact hv
    · exact h2 i
  · rw [gD_s (by omega), gD_s (by omega)]
    exact h4 h h9 i
theorem EI_D1 {j : Nat} {v : UInt64} (he : EI σ) (hv : Wi v) : EI (sD σ 1 (vf_upd (gD σ 1) j v)) := by
  obtain ⟨h0, h1, h2, h3, h4, h5⟩ := he
  refine ⟨h0, h1, h2, fun i => ?_, fun h h9 i => ?_, h5⟩
  · rw [gD_sD]
    unfold vf_upd
    split
    · exact hv
    · exact h3 i
  · rw [gD_s (by omega), gD_s (by omega)]
    exact h4 h h9 i
theorem EI_Dv {g j : Nat} {v : UInt64} (h9 : g < 8) (he : EI σ) (hv : Wi v) : EI (sD σ (10 + g) (vf_upd (gD σ (10 + g)) j v)) := by
  obtain ⟨h0, h1, h2, h3, h4, h5⟩ := he
  refine ⟨h0, h1, fun i => ?_, fun i => ?_, fun h hh i => ⟨?_, ?_⟩, h5⟩
  · rw [gD_s (by omega)]; exact h2 i
  · rw [gD_s (by omega)]; exact h3 i
  · by_cases e : h = g
    · subst e
      rw [gD_sD]
      unfold vf_upd
      split
      · exact hv
      · exact (h4 h hh i).1
    · rw [gD_s (by omega)]; exact (h4 h hh i).1
  · rw [gD_s (by omega)]; exact (h4 h hh i).2
theorem EI_Dl {g j : Nat} {v : UInt64} (h9 : g < 8) (he : EI σ) (hv : Wi v) : EI (sD σ (20 + g) (vf_upd (gD σ (20 + g)) j v)) := by
  obtain ⟨h0, h1, h2, h3, h4, h5⟩ := he
  refine ⟨h0, h1, fun i => ?_, fun i => ?_, fun h hh i => ⟨?_, ?_⟩, h5⟩
  · rw [gD_s (by omega)]; exact h2 i
  · rw [gD_s (by omega)]; exact h3 i
  · rw [gD_s (by omega)]; exact (h4 h hh i).1
  · by_cases e : h = g
    · subst e
      rw [gD_sD]
      unfold vf_upd
      split
      · exact hv
      · exact (h4 h hh i).2
    · rw [gD_s (by omega)]; exact (h4 h hh i).2
theorem Rb_D0 {j : Nat} {v : UInt64} (b : Rb σ τ t) : Rb (sD σ 0 (vf_upd (gD σ 0) j v)) (sD τ 0 (vf_upd (gD τ 0) j v)) t := by
  obtain ⟨b1, b2, b3, b4, b5, b6⟩ := b
  refine ⟨b1.cl ⟨rfl, rfl, rfl, rfl, rfl, rfl, rfl⟩ ⟨rfl, rfl, rfl, rfl, rfl, rfl, rfl⟩ (fun _ _ => rfl) (fun _ _ _ => rfl) ?_ ?_, ?_, b3, b4, b5, b6⟩
  · rw [gD_sD, gD_sD, b1.2.2.1]
  · rw [gD_s (by decide), gD_s (by decide), b1.2.2.2]
  · intro x hx c hc
    rw [gD_s (by omega), gD_s (by omega), gD_s (by omega), gD_s (by omega)]
    exact b2 x hx c hc
theorem Rb_D1 {j : Nat} {v : UInt64} (b : Rb σ τ t) : Rb (sD σ 1 (vf_upd (gD σ 1) j v)) (sD τ 1 (vf_upd (gD τ 1) j v)) t := by
  obtain ⟨b1, b2, b3, b4, b5, b6⟩ := b
  refine ⟨b1.cl ⟨rfl, rfl, rfl, rfl, rfl, rfl, rfl⟩ ⟨rfl, rfl, rfl, rfl, rfl, rfl, rfl⟩ (fun _ _ => rfl) (fun _ _ _ => rfl) ?_ ?_, ?_, b3, b4, b5, b6⟩
  · rw [gD_s (by decide), gD_s (by decide), b1.2.2.1]
  · rw [gD_sD, gD_sD, b1.2.2.2]
  · intro x hx c hc
    rw [gD_s (by omega), gD_s (by omega), gD_s (by omega), gD_s (by omega)]
    exact b2 x hx c hc
theorem Rb_Dl {g j : Nat} {v : UInt64} (hg : g < 8) (hj : j < 2) (b : Rb σ τ t) : Rb (sD σ (20 + g) (vf_upd (gD σ (20 + g)) j v)) (sD τ 3 (vf_upd (gD τ 3) (2 * (g + 1) + j) v)) t := by
  obtain ⟨b1, b2, b3, b4, b5, b6⟩ := b
  refine ⟨b1.cl ⟨rfl, rfl, rfl, rfl, rfl, rfl, rfl⟩ ⟨rfl, rfl, rfl, rfl, rfl, rfl, rfl⟩ (fun _ _ => rfl) (fun _ _ _ => rfl) ?_ ?_, ?_, b3, b4, b5, b6⟩
  · rw [gD_s (by omega), gD_s (by omega), b1.2.2.1]
  · rw [gD_s (by omega), gD_s (by omega), b1.2.2.2]
  · intro x hx c hc
    obtain ⟨y1, y2, y3⟩ := b2 x hx c hc
    refine ⟨y1, y2, fun k hk => ?_⟩
    obtain ⟨z1, z2, z3, z4⟩ := y3 k hk
    refine ⟨z1, z2, ?_, ?_⟩
    · rw [gD_sD]
      by_cases e : x = g
      · subst e
        rw [gD_sD]
        by_cases e2 : k = j
        · rw [e2, vfu_self, vfu_self]
        · rw [vfu_ne (by omega), vfu_ne e2, z3]
      · rw [vfu_ne (by omega), gD_s (by omega), z3]
    · rw [gD_s (by omega), gD_s (by omega)]
      exact z4
theorem Rb_Dv {g j : Nat} {v : UInt64} (hg : g < 8) (hj : j < 2) (b : Rb σ τ t) : Rb (sD σ (10 + g) (vf_upd (gD σ (10 + g)) j v)) (sD τ 2 (vf_upd (gD τ 2) (2 * (g + 1) + j) v)) t := by
  obtain ⟨b1, b2, b3, b4, b5, b6⟩ := b
  refine ⟨b1.cl ⟨rfl, rfl, rfl, rfl, rfl, rfl, rfl⟩ ⟨rfl, rfl, rfl, rfl, rfl, rfl, rfl⟩ (fun _ _ => rfl) (fun _ _ _ => rfl) ?_ ?_, ?_, b3, b4, b5, b6⟩
  · rw [gD_s (by omega), gD_s (by omega), b1.2.2.1]
  · rw [gD_s (by omega), gD_s (by omega), b1.2.2.2]
  · intro x hx c hc
    obtain ⟨y1, y2, y3⟩ := b2 x hx c hc
    refine ⟨y1, y2, fun k hk => ?_⟩
    obtain ⟨z1, z2, z3, z4⟩ := y3 k hk
    refine ⟨z1, z2, ?_, fun l1 l2 => ?_⟩
    · rw [gD_s (by omega), gD_s (by omega)]
      exact z3
    · rw [gD_sD]
      by_cases e : x = g
      · subst e
        rw [gD_sD]
        by_cases e2 : k = j
        · rw [e2, vfu_self, vfu_self]
        · rw [vfu_ne (by omega), vfu_ne e2]
          exact z4 l1 l2
      · rw [vfu_ne (by omega), gD_s (by omega)]
        exact z4 l1 l2
theorem Kp_Dlo {τ : CS} {j : Nat} {v : Nat → UInt64} (h : j < 4) : Kp τ (sD τ j v) t := ⟨fun _ _ _ _ _ => rfl, fun i h1 h2 f hf => by rw [gD_s (by omega)]⟩
end BECOME
section KXS
variable {τ : CS} {t : Nat} {g : Int32} {X : CS → Prop} {v : UInt64} {e a : Int32}
theorem kx_el (ht : t < 80) (h10 : gI τ 10 = 0) (h16 : gA τ 16 t = g) (hg : vp_in g 48) (hk : gA τ 0 g.toNatClampNeg = 2) (hX : wp_MO_enter (gA τ 1 g.toNatClampNeg) (gA τ 17 t) (sA τ 13 (upd (gA τ 13) t 2)) X) : KX (Int32.ofNat t) X τ := by
  have e2 : (Int32.ofNat t).toNatClampNeg = t := t_nat (by omega)
  have e3 : vp_in (Int32.ofNat t) 310 := t_in (by omega) (by omega)
  unfold KX
  simp only [e2]
  refine tk (by rw [h10]; decide) ⟨e3, by rw [h16]; exact hg, tk (by rw [h16]; exact hk) ⟨e3, fun s es => ?_⟩⟩
  subst es
  refine ⟨e3, ?_, e3, ?_⟩
  · rw [gA_s (by decide), h16]; exact hg
  · rw [gA_s (k := 13) (j := 16) (by decide), gA_s (k := 13) (j := 1) (by decide), gA_s (k := 13) (j := 17) (by decide), h16]
    exact hX
theorem kx_bc (ht : t < 80) (h10 : gI τ 10 = 0) (h16 : gA τ 16 t = g) (hg : vp_in g 48) (hk : ¬ gA τ 0 g.toNatClampNeg = 2) (hX : wp_MO_become (Int32.ofNat t) τ X) : KX (Int32.ofNat t) X τ := by
  have e2 : (Int32.ofNat t).toNatClampNeg = t := t_nat (by omega)
  have e3 : vp_in (Int32.ofNat t) 310 := t_in (by omega) (by omega)
  unfold KX
  simp only [e2]
  exact tk (by rw [h10]; decide) ⟨e3, by rw [h16]; exact hg, sk (by rw [h16]; exact hk) hX⟩
theorem bc_1h (ht : t < 80) (h10 : gI τ 10 = 0) (h16 : gA τ 16 t = g) (hg : vp_in g 48) (hk : gA τ 0 g.toNatClampNeg = 1) (h4 : gD τ 4 t = v) (wv : Wi v) (ha : gA τ 1 g.toNatClampNeg = a) (a8 : vp_in a 8) (hl : 4 ≤ a) (hX : wp_MO_end v (sD τ 0 (vf_upd (gD τ 0) a.toNatClampNeg v)) X) : wp_MO_become (Int32.ofNat t) τ X := by
  have e2 : (Int32.ofNat t).toNatClampNeg = t := t_nat (by omega)
  have e3 : vp_in (Int32.ofNat t) 310 := t_in (by omega) (by omega)
  unfold wp_MO_become
  simp only [e2, h16, h4, ha]
  refine ⟨e3, e3, hg, e3, hg, tk hk (tk hl (good_to wv (sk (by decide) ⟨a8, fun s es => ?_⟩)))⟩
  subst es
  exact tk h10 hX
theorem bc_1l (ht : t < 80) (h10 : gI τ 10 = 0) (h16 : gA τ 16 t = g) (hg : vp_in g 48) (hk : gA τ 0 g.toNatClampNeg = 1) (h4 : gD τ 4 t = v) (wv : Wi v) (ha : gA τ 1 g.toNatClampNeg = a) (a8 : vp_in a 8) (hl : ¬ 4 ≤ a) (hX : wp_MO_end (FP.l2d (rd v)) (sD τ 0 (vf_upd (gD τ 0) a.toNatClampNeg (FP.l2d (rd v)))) X) : wp_MO_become (Int32.ofNat t) τ X := by
  have e2 : (Int32.ofNat t).toNatClampNeg = t := t_nat (by omega)
  have e3 : vp_in (Int32.ofNat t) 310 := t_in (by omega) (by omega)
  unfold wp_MO_become
  simp only [e2, h16, h4, ha]
  refine ⟨e3, e3, hg, e3, hg, tk hk (sk hl (round_to wv (good_to (wi_l2d (rd_sm wv)) (sk (by decide) ⟨a8, fun s es => ?_⟩))))⟩
  subst es
  exact tk h10 hX
theorem bc_10 (ht : t < 80) (h10 : gI τ 10 = 0) (h16 : gA τ 16 t = g) (hg : vp_in g 48) (hk : gA τ 0 g.toNatClampNeg = 10) (h4 : gD τ 4 t = v) (wv : Wi v) (h17 : gA τ 17 t = e) (ha : gA τ 1 g.toNatClampNeg = a) (x1 : vp_in ((2 * e) + a) 20) (hX : wp_MO_end v (sD τ 2 (vf_upd (gD τ 2) ((2 * e) + a).toNatClampNeg v)) X) : wp_MO_become (Int32.ofNat t) τ X := by
  have e2 : (Int32.ofNat t).toNatClampNeg = t := t_nat (by omega)
  have e3 : vp_in (Int32.ofNat t) 310 := t_in (by omega) (by omega)
  unfold wp_MO_become
  simp only [e2, h16, h4, ha, h17]
  refine ⟨e3, e3, hg, e3, hg, sk (k_ne hk (by decide)) (good_to wv (sk (by decide) ⟨hg, tk hk ⟨x1, fun s es => ?_⟩⟩))⟩
  subst es
  exact tk h10 hX
theorem bc_11n (ht : t < 80) (h10 : gI τ 10 = 0) (h16 : gA τ 16 t = g) (hg : vp_in g 48) (hk : gA τ 0 g.toNatClampNeg = 11) (h4 : gD τ 4 t = v) (wv : Wi v) (h17 : gA τ 17 t = e) (ha : gA τ 1 g.toNatClampNeg = a) (he : ¬ e = 0) (x1 : vp_in ((2 * e) + a) 20) (hX : wp_MO_end v (sD τ 3 (vf_upd (gD τ 3) ((2 * e) + a).toNatClampNeg v)) X) : wp_MO_become (Int32.ofNat t) τ X := by
  have e2 : (Int32.ofNat t).toNatClampNeg = t := t_nat (by omega)
  have e3 : vp_in (Int32.ofNat t) 310 := t_in (by omega) (by omega)
  unfold wp_MO_become
  simp only [e2, h16, h4, ha, h17]
  refine ⟨e3, e3, hg, e3, hg, sk (k_ne hk (by decide)) (good_to wv (sk (by decide) ⟨hg, sk (k_ne hk (by decide)) (sk he ⟨x1, fun s es => ?_⟩)⟩))⟩
  subst es
  exact tk h10 hX
theorem bc_11z (ht : t < 80) (h16 : gA τ 16 t = g) (hg : vp_in g 48) (hk : gA τ 0 g.toNatClampNeg = 11) (h4 : gD τ 4 t = v) (wv : Wi v) (h17 : gA τ 17 t = e) (he : e = 0) (hX : X (sI τ 10 4)) : wp_MO_become (Int32.ofNat t) τ X := by
  have e2 : (Int32.ofNat t).toNatClampNeg = t := t_nat (by omega)
  have e3 : vp_in (Int32.ofNat t) 310 := t_in (by omega) (by omega)
  unfold wp_MO_become
  simp only [e2, h16, h4, h17]
  exact ⟨e3, e3, hg, e3, hg, sk (k_ne hk (by decide)) (good_to wv (sk (by decide) ⟨hg, sk (k_ne hk (by decide)) (tk he (cont_bad (by decide) hX))⟩))⟩
theorem st_s2 {n : Int32} (ht : t < 80) (h13 : gA τ 13 t = 2) (h16 : gA τ 16 t = g) (hg : vp_in g 48) (hX : wp_MO_enter (gA τ 2 g.toNatClampNeg) (gA τ 17 t) (sA (sD τ 5 (vf_upd (gD τ 5) t (gX τ 0))) 13 (upd (gA τ 13) t 3)) X) : wp_MO_set (Int32.ofNat t) n τ X := by
  have e2 : (Int32.ofNat t).toNatClampNeg = t := t_nat (by omega)
  have e3 : vp_in (Int32.ofNat t) 310 := t_in (by omega) (by omega)
  unfold wp_MO_set
  simp only [e2, h13]
  refine ⟨e3, sk (by decide) (sk (by decide) (tk trivial ⟨e3, fun s29 e29 => ⟨e3, fun s30 e30 => ?_⟩⟩))⟩
  subst e30 e29
  refine ⟨e3, ?_, e3, ?_⟩
  · rw [gA_s (by decide), gA_sD, h16]; exact hg
  · rw [gA_s (k := 13) (j := 16) (by decide), gA_s (k := 13) (j := 2) (by decide), gA_s (k := 13) (j := 17) (by decide), gA_sD, gA_sD, gA_sD, h16]
    exact hX
theorem st_s3 {n : Int32} {w2 w1 : UInt64} (ht : t < 80) (h13 : gA τ 13 t = 3) (h5 : gD τ 5 t = w2) (hx : gX τ 0 = w1) (W2 : Wi w2) (W1 : Wi w1) (hX : wp_MO_place (FP.l2d (rd w2)) (FP.l2d (rd w1)) τ (fun r37 s38 => ((0 ≤ r37 → (vp_in (Int32.ofNat t) 310 ∧ (wp_MO_isGood (gD s38 4 t) s38 (fun r40 s41 => ((r40 = 0 → (wp_MO_wrong 2 s41 X)) ∧ (¬ r40 = 0 → (vp_in (Int32.ofNat t) 310 ∧ (vp_in r37 25 ∧ (∀ s43 : CS, s43 = sD s41 1 (vf_upd (gD s41 1) r37.toNatClampNeg (gD s41 4 t)) → (vp_in (Int32.ofNat t) 310 ∧ (wp_MO_end (gD s43 4 t) s43 X))))))))))) ∧ (¬ 0 ≤ r37 → (wp_MO_wrong 3 s38 X))))) : wp_MO_set (Int32.ofNat t) n τ X := by
  have e2 : (Int32.ofNat t).toNatClampNeg = t := t_nat (by omega)
  have e3 : vp_in (Int32.ofNat t) 310 := t_in (by omega) (by omega)
  unfold wp_MO_set
  simp only [e2, h13, h5]
  refine ⟨e3, sk (by decide) (sk (by decide) (sk (by decide) ⟨e3, round_to W2 ?_⟩))⟩
  rw [hx]
  exact round_to W1 hX
end KXS
section BECOME
variable {V : VT} {B : BT} {d k : Nat}
theorem m_become (hV : VS V d) (hB : BS B d k) : BS (wp_WK_become V B) d (k + 1) := by
  intro g v h' dp σ τ t Q n h d0 hg wv hh hn hdp hd ht I C hk13 hk9 alt
  have ok := I.1.1 g hg
  rcases alt with ⟨ng, qf⟩ | ⟨gl, h16, h17, h4, h13, R, q⟩
  · refine ⟨hv9 hh, hg, hg, sk (fun y => ng (Or.inl y)) (sk (fun y => ng (Or.inr (Or.inl y))) (sk (fun y => ng (Or.inr (Or.inr (Or.inl y)))) (sk (fun y => ng (Or.inr (Or.inr (Or.inr y)))) (fun s es => ?_))))⟩
    rw [es]; exact qf
  have h10 := R.1.2.2.2.1
  have a0 : gA τ 0 g.toNatClampNeg = gA σ 0 g.toNatClampNeg := by rw [R.a0]
  have a1 : gA τ 1 g.toNatClampNeg = gA σ 1 g.toNatClampNeg := by rw [R.a1]
  have Fin : ∀ {s τ2 : CS} {r : UInt64}, Fr σ s → Rb s τ2 t → (∀ j, gI τ2 j = gI τ j) → (∀ j, gA τ2 j = gA τ j) → (∀ j, gI s j = gI σ j) → Kp τ τ2 t → Wi r → (∀ X, wp_MO_end r τ2 X → FW (Int32.ofNat t) X τ) → Q r s := fun {s τ2 r} f b ei ea es K wr hs =>
    q.fini f b (by rw [ei]; exact R.2.1) (by rw [ea]; exact R.2.2.1) (by rw [ea, es]; exact R.2.2.2.1) K ⟨by rw [es]; exact C.1, by rw [es]; exact C.2⟩ ht wr hs
  refine ⟨hv9 hh, hg, hg, fun c => ?_, fun c1 => ⟨fun c => ?_, fun c2 => ⟨fun c => ?_, fun c10 => ⟨fun c => ?_, fun c11 => ?_⟩⟩⟩⟩
  ·
    have a8 := ok.1 c
    have eW : ∀ {X}, wp_MO_become (Int32.ofNat t) τ X → FW (Int32.ofNat t) X τ := fun hX => fw_end ht h10 h16 hg (by rw [a0]; exact k_ne c (by decide)) (kx_bc ht h10 h16 hg (by rw [a0]; exact k_ne c (by decide)) hX)
    refine ⟨fun hl => ⟨a8, fun s2 e2 => ⟨a8, ?_⟩⟩, fun hl => rounded_to wv ⟨a8, fun s2 e2 => ⟨a8, ?_⟩⟩⟩
    · subst e2
      rw [gD_sD, vfu_self]
      exact Fin (Fr_D I (EI_D0 I.2.1 wv)) (Rb_D0 R.1) (fun _ => rfl) (fun _ => rfl) (fun _ => rfl) (Kp_Dlo (by decide)) wv (fun X hX => eW (bc_1h ht h10 h16 hg (by rw [a0]; exact c) h4 wv a1 a8 hl hX))
    · subst e2
      rw [gD_sD, vfu_self]
      have wr := wi_l2d (rd_sm wv)
      exact Fin (Fr_D I (EI_D0 I.2.1 wr)) (Rb_D0 R.1) (fun _ => rfl) (fun _ => rfl) (fun _ => rfl) (Kp_Dlo (by decide)) wr (fun X hX => eW (bc_1l ht h10 h16 hg (by rw [a0]; exact c) h4 wv a1 a8 hl hX))
  ·
    have ab := ok.2.2.2.2.2.2.2.1 (by rw [c]; decide) (by rw [c]; decide) (by rw [c]; decide) (by rw [c]; decide) (by rw [c]; decide) (by rw [c]; decide) (by rw [c]; decide)
    have hke : gA τ 0 g.toNatClampNeg = 2 := by rw [a0]; exact c
    have n17 : gA σ 0 n.toNatClampNeg ≠ 17 := k_ne hk13 (by decide)
    have T2 : Tw τ (sA τ 13 (upd (gA τ 13) t 2)) t := T13
    have R2 := R.tw T2
    have fe : ∀ X, wp_MO_enter (gA σ 1 g.toNatClampNeg) (en h') (sA τ 13 (upd (gA τ 13) t 2)) X → FW (Int32.ofNat t) X τ := fun X hX => fw_end ht h10 h16 hg (k_ne hke (by decide)) (kx_el ht h10 h16 hg hke (by rw [a1, h17]; exact hX))
    have ga16 : gA (sA τ 13 (upd (gA τ 13) t 2)) 16 t = g := by rw [gA_s (by decide)]; exact h16
    have ga17 : gA (sA τ 13 (upd (gA τ 13) t 2)) 17 t = en h' := by rw [gA_s (by decide)]; exact h17
    have ga13 : gA (sA τ 13 (upd (gA τ 13) t 2)) 13 t = 2 := s13
    have gd4 : gD (sA τ 13 (upd (gA τ 13) t 2)) 4 t = v := h4
    generalize sA τ 13 (upd (gA τ 13) t 2) = τa at *
    refine child0 hV R2 hn n17 hd I C ab.1 hh hdp ht (fun r s τ' wr fs C2 wk eE R3 kp vx => leave_of (fun _ _ => tk rfl ⟨hg, ?_⟩) (fun hl => nl C2 hl)) (fun r s τ' wr fs hl eE ou => leave_of (fun a b => lv hl a b) (fun _ => sk (by decide) ?_))
    rotate_left
    · obtain ⟨τ1, g1, g2⟩ := eE
      exact q _ s τ' wi0 fs ⟨τ1, fun X hX => fe X (g1 X hX), g2⟩ (out_6 (ou _ _ σ τ rfl T2.2.1) hl)
    obtain ⟨τ1, g1, g2⟩ := eE
    have I2 := fs.inv I
    have hk3 : gA s 0 n.toNatClampNeg = 13 := by rw [fs.1.1]; exact hk13
    have b16 : gA τ' 16 t = g := by rw [kp.1 16 (by omega) (by omega) t (by omega)]; exact ga16
    have b17 : gA τ' 17 t = en h' := by rw [kp.1 17 (by omega) (by omega) t (by omega)]; exact ga17
    have b13 : gA τ' 13 t = 2 := by rw [kp.1 13 (by omega) (by omega) t (by omega)]; exact ga13
    have b4 : gD τ' 4 t = v := by rw [kp.2 4 (by omega) (by omega) t (by omega)]; exact gd4
    have T3 : Tw τ' (sA (sD τ' 5 (vf_upd (gD τ' 5) t r)) 13 (upd (gA τ' 13) t 3)) t := T5.tr (T13 (τ := sD τ' 5 (vf_upd (gD τ' 5) t r)))
    have R4 := R3.tw T3
    have st2 : ∀ X, wp_MO_enter (gA s 2 g.toNatClampNeg) (en h') (sA (sD τ' 5 (vf_upd (gD τ' 5) t r)) 13 (upd (gA τ' 13) t 3)) X → wp_MO_step τ' X := fun X hX => st_13 R3.2.1 ht R3.hf hn (by rw [R3.a0]; exact hk3) (st_s2 ht b13 b16 hg (by rw [R3.a2, b17, vx]; exact hX))
    have gb16 : gA (sA (sD τ' 5 (vf_upd (gD τ' 5) t r)) 13 (upd (gA τ' 13) t 3)) 16 t = g := by rw [gA_s (by decide)]; exact b16
    have gb13 : gA (sA (sD τ' 5 (vf_upd (gD τ' 5) t r)) 13 (upd (gA τ' 13) t 3)) 13 t = 3 := by rw [gA_sA, upd_self]
    have gb4 : gD (sA (sD τ' 5 (vf_upd (gD τ' 5) t r)) 13 (upd (gA τ' 13) t 3)) 4 t = v := by rw [gD_sA, gD_s (by decide)]; exact b4
    have gb5 : gD (sA (sD τ' 5 (vf_upd (gD τ' 5) t r)) 13 (upd (gA τ' 13) t 3)) 5 t = r := by rw [gD_sA, gD_sD, vfu_self]
    generalize sA (sD τ' 5 (vf_upd (gD τ' 5) t r)) 13 (upd (gA τ' 13) t 3) = τb at *
    have K1 : Kp τ τ' t := T2.2.1.tr (kp.lo (by omega))
    have K2 : Kp τ τb t := K1.tr T3.2.1
    have go1 : ∀ τ2, Ent (gA s 2 g.toNatClampNeg) (en h') τb τ2 → Gos τ1 τ2 := fun τ2 e2 => g2.tr (Gos_ent (R3.pos ht) R3.1.2.2.2.1 st2 e2)
    refine child0 hV R4 hn (k_ne hk3 (by decide)) hd I2 C2 (by rw [fs.1.2.2.1]; exact ab.2) (fs.vh hh) hdp ht (fun r2 s2 τ2 wr2 fs2 C3 wk2 en2 R5 kp2 vx2 => leave_of (fun _ _ => tk rfl ?_) (fun hl => nl C3 hl)) (fun r2 s2 τ2 wr2 fs2 hl en2 ou2 => leave_of (fun a b => lv hl a b) (fun _ => sk (by decide) ?_))
    rotate_left
    · exact q _ s2 τ2 wi0 (fs.tr fs2) ⟨τ1, fun X hX => fe X (g1 X hX), go1 τ2 en2⟩ (out_6 (ou2 _ _ σ τ fs.2.2.2.1 K2) hl)
    have ft := fs.tr fs2
    have I3 := ft.inv I
    have hk4 : gA s2 0 n.toNatClampNeg = 13 := by rw [ft.1.1]; exact hk13
    have c13 : gA τ2 13 t = 3 := by rw [kp2.1 13 (by omega) (by omega) t (by omega)]; exact gb13
    have c4 : gD τ2 4 t = v := by rw [kp2.2 4 (by omega) (by omega) t (by omega)]; exact gb4
    have c5 : gD τ2 5 t = r := by rw [kp2.2 5 (by omega) (by omega) t (by omega)]; exact gb5
    have K3 : Kp τ τ2 t := K2.tr (kp2.lo (by omega))
    have go2 := go1 τ2 en2
    have bd := I3.2.1.2.2.2.2.2
    obtain ⟨-, i1, i2, i3, i4⟩ := R5.1.1.2.1
    have st3 : ∀ X, wp_MO_place (FP.l2d (rd r)) (FP.l2d (rd r2)) τ2 (fun r37 s38 => ((0 ≤ r37 → (vp_in (Int32.ofNat t) 310 ∧ (wp_MO_isGood (gD s38 4 t) s38 (fun r40 s41 => ((r40 = 0 → (wp_MO_wrong 2 s41 X)) ∧ (¬ r40 = 0 → (vp_in (Int32.ofNat t) 310 ∧ (vp_in r37 25 ∧ (∀ s43 : CS, s43 = sD s41 1 (vf_upd (gD s41 1) r37.toNatClampNeg (gD s41 4 t)) → (vp_in (Int32.ofNat t) 310 ∧ (wp_MO_end (gD s43 4 t) s43 X))))))))))) ∧ (¬ 0 ≤ r37 → (wp_MO_wrong 3 s38 X)))) → wp_MO_step τ2 X := fun X hX => st_13 R5.2.1 ht R5.hf hn (by rw [R5.a0]; exact hk4) (st_s3 ht c13 c5 vx2 wr wr2 hX)
    have bt : ∀ Y : Int32 → CS → Prop, (Hd (gI s2 9) (gI s2 10) (gI s2 11) (gI s2 12) (rd r) (rd r2) → Y (pl (gI s2 9) (gI s2 11) (rd r) (rd r2)) τ2) → (¬ Hd (gI s2 9) (gI s2 10) (gI s2 11) (gI s2 12) (rd r) (rd r2) → Y (-1) τ2) → wp_MO_place (FP.l2d (rd r)) (FP.l2d (rd r2)) τ2 Y := fun Y y1 y0 =>
      place_to (sb9 (rd_sm wr)) (sb9 (rd_sm wr2)) (by rw [i1, i2, i3, i4]; exact bd) (by rw [i1, i2, i3, i4]; exact y1) (by rw [i1, i2, i3, i4]; exact y0)
    refine rounded_to wr (rounded_to wr2 (holds_to (fun hd1 => sk (by decide) ?_) (fun hd0 => tk rfl (fun s3 es3 => ?_))))
    · obtain ⟨pin, p0⟩ := pl_in hd1 bd
      refine ⟨pin, fun s3 es3 => ?_⟩
      rw [es3]
      have e3 : vp_in (Int32.ofNat t) 310 := t_in (by omega) (by omega)
      obtain ⟨b1, b2, b3, b4', b5, b6⟩ := Rb_D1 (j := (pl (gI s2 9) (gI s2 11) (rd r) (rd r2)).toNatClampNeg) (v := v) R5.1
      have fD : Fr s2 (sD s2 1 (vf_upd (gD s2 1) (pl (gI s2 9) (gI s2 11) (rd r) (rd r2)).toNatClampNeg v)) := Fr_D I3 (EI_D1 I3.2.1 wv)
      generalize hs3 : sD s2 1 (vf_upd (gD s2 1) (pl (gI s2 9) (gI s2 11) (rd r) (rd r2)).toNatClampNeg v) = s4 at *
      have i4' : ∀ j, gI s4 j = gI s2 j := fun j => by rw [← hs3]; rfl
      have hbb : Rb (sI s4 6 d0) (sD τ2 1 (vf_upd (gD τ2 1) (pl (gI s2 9) (gI s2 11) (rd r) (rd r2)).toNatClampNeg v)) t := ⟨b1.ci (by decide), b2.ci (by decide), by rw [gI_s (by decide)]; exact b3, b4', b5, b6⟩
      have hdd : Fdn (sI s4 6 d0) (sD τ2 1 (vf_upd (gD τ2 1) (pl (gI s2 9) (gI s2 11) (rd r) (rd r2)).toNatClampNeg v)) t := ⟨R5.2.1, by rw [gI_sI]; exact R5.2.2.1, by rw [gI_s (by decide), i4']; exact R5.2.2.2.1⟩
      obtain ⟨d1, d2, d3⟩ := done_of hbb hdd v
      refine q v s4 _ wv (ft.tr fD) ⟨τ1, fun X hX => fe X (g1 X hX), go2.tr (Gos_step (R5.pos ht) R5.1.2.2.2.1 (fun X hX => st3 X (bt _ (fun _ => tk p0 ⟨e3, ?_⟩) (fun y => absurd hd1 y))))⟩ (Or.inl ⟨by rw [gI_s (by decide), i4']; exact C3.1, by rw [gI_s (by decide), i4']; exact C3.2, by rw [gI_s (by decide)]; exact (ft.tr fD).2.2.2.2.2.2.2, d1, d2, (K3.tr (Kp_Dlo (by decide))).tr d3⟩)
      rw [c4]
      refine good_to wv (sk (by decide) ⟨e3, pin, fun s43 e43 => ?_⟩)
      rw [c4] at e43
      subst e43
      refine ⟨e3, ?_⟩
      rw [gD_s (by decide), c4]
      exact end_to (τ := sD τ2 1 (vf_upd (gD τ2 1) (pl (gI s2 9) (gI s2 11) (rd r) (rd r2)).toNatClampNeg v)) R5.2.1 (by omega) X hX
    · rw [es3]
      refine q _ _ (sI τ2 10 3) wi0 (ft.tr (Fr_sI (by decide) (by decide) (by decide) (by decide) I3)) ⟨τ1, fun X hX => fe X (g1 X hX), go2.tr (Gos_step (R5.pos ht) R5.1.2.2.2.1 (fun X hX => st3 X (bt _ (fun y => absurd y hd0) (fun _ => sk (by decide) (fun s5 es5 => by rw [es5]; exact hX)))))⟩ (Or.inr (Or.inl ⟨?_, ?_, ?_, ?_, ?_⟩))
      · rw [gI_s (by decide), gI_sI]; decide
      · rw [gI_s (by decide), gI_s (by decide)]; exact C3.2
      · rw [gI_sI]; decide
      · exact ((R5.1.1.ri (by decide)).ci (by decide)).ci (by decide)
      · exact ((R5.1.2.1.ri).ci (by decide)).ci (by decide)
  ·
    have ha := ok.2.1 c
    have hkp : gA τ 0 g.toNatClampNeg = 10 := by rw [a0]; exact c
    rcases hv_cases I hh with ⟨h8, hgc⟩ | ⟨h8, cc, hgc⟩
    · refine ⟨hv9 hh, hv9 hh, fun _ => tk rfl (fun s es => ?_), fun c' hc' => ?_⟩
      · rw [es]
        exact q.bad I C (τ2 := sI τ 10 4) (R.1.1.ri (by decide)) R.1.2.1 (by decide) (by rw [gI_sI]; decide) (fun X hX => fw_p0 ht h10 h16 hg hkp h17 rfl (Or.inl (by rw [h8]; decide)) hX) wi0
      · rw [hgc] at hc'; cases hc'
    · obtain ⟨x1, x2, x3, x4⟩ := ix h8 ha
      obtain ⟨p1, p2, p3, p4⟩ := en_pos h8
      obtain ⟨w1, w2, w3⟩ := R.1.2.1 h' h8 cc hgc
      obtain ⟨v1, v2, v3, v4⟩ := w3 _ x3
      refine ⟨hv9 hh, hv9 hh, fun hc => ?_, fun c' hc' => ⟨fun hl => tk rfl (fun s es => ?_), fun hl => sk (by decide) ⟨hv9 hh, fun hb => sk (by decide) (mayEnter_of (fun h8' => tk rfl ?_) (fun h8' => sk (by decide) ⟨ha, cc, hgc, ?_⟩)), fun hb => tk rfl ⟨ha, fun s es => ?_⟩⟩⟩⟩
      · rw [hgc] at hc; cases hc
      · rw [es]
        exact q.bad I C (τ2 := sI τ 10 4) (R.1.1.ri (by decide)) R.1.2.1 (by decide) (by rw [gI_sI]; decide) (fun X hX => fw_p0 ht h10 h16 hg hkp h17 a1 (Or.inr ⟨p1, p2, by rw [p3, w1]; exact hl⟩) hX) wi0
      ·
        have gv := (I.2.1.2.1 h' h8 cc hgc).2 _ ha hl
        by_cases gg : Gl (gA σ 0 (gA σ (10 + h') (gA σ 1 g.toNatClampNeg).toNatClampNeg).toNatClampNeg)
        · refine q.bad I C (τ2 := sA (sA (sI τ 10 7) 16 (upd (gA τ 16) t (gA σ (10 + h') (gA σ 1 g.toNatClampNeg).toNatClampNeg))) 17 (upd (gA τ 17) t (gA τ 8 ((2 * en h') + gA σ 1 g.toNatClampNeg).toNatClampNeg))) (((R.1.1.ri (by decide)).ra (by decide)).ra (by decide)) ((R.1.2.1.ra (by decide)).ra (by decide)) (by decide) (by rw [gI_sA, gI_sA, gI_sI]; decide) (fun X hX => fw_p7 ht h10 h16 hg hkp h17 a1 p1 p2 (by rw [p3, w1]; exact hl) (by rw [p3, w2]; exact hb) x1 (by rw [x2, v1]) gv (by rw [R.a0]; exact gg) (by rw [R.2.2.2.2.2.1]; exact h8') hX) wi0
        · exact q.bad I C (τ2 := sI τ 10 6) (R.1.1.ri (by decide)) R.1.2.1 (by decide) (by rw [gI_sI]; decide) (fun X hX => fw_p6 ht h10 h16 hg hkp h17 a1 p1 p2 (by rw [p3, w1]; exact hl) (by rw [p3, w2]; exact hb) x1 (by rw [x2, v1]) gv (by rw [R.a0]; exact gg) hX) wi0
      ·
        have gv := (I.2.1.2.1 h' h8 cc hgc).2 _ ha hl
        have cv := (I.2.1.2.1 h' h8 cc hgc).1
        obtain ⟨k1, k2, k3⟩ := oc1 I h8'
        have IE := EN1_In I h8'
        have CE : Cm (EN1 σ) := ⟨by rw [EN1_I (by decide) (by decide)]; exact C.1, by rw [EN1_I (by decide) (by decide)]; exact C.2⟩
        by_cases gg : Gl (gA σ 0 (gA σ (10 + h') (gA σ 1 g.toNatClampNeg).toNatClampNeg).toNatClampNeg)
        · obtain ⟨m, hm⟩ := fw_pn ht h10 h16 hg hkp h17 a1 p1 p2 (by rw [p3, w1]; exact hl) (by rw [p3, w2]; exact hb) x1 (y := gA σ (10 + h') (gA σ 1 g.toNatClampNeg).toNatClampNeg) (by rw [x2, v1]) gv (by rw [R.a0]; exact gg) (by rw [R.2.2.2.2.2.1]; exact h8')
          rw [x2, v2] at hm
          generalize hτ : sA (sA (sI (sI τ 7 (gI τ 7 + 1)) 12 m) 16 (upd (gA τ 16) t (gA σ (10 + h') (gA σ 1 g.toNatClampNeg).toNatClampNeg))) 17 (upd (gA τ 17) t (en cc)) = τ2 at hm
          have ai : ∀ j, j ≠ 16 → j ≠ 17 → gA τ2 j = gA τ j := fun j y1 y2 => by rw [← hτ, gA_s y2, gA_s y1]; rfl
          have ii : ∀ j, j ≠ 7 → j ≠ 12 → gI τ2 j = gI τ j := fun j y1 y2 => by rw [← hτ, gI_sA, gI_sA, gI_s y2, gI_s y1]
          have di : ∀ j, gD τ2 j = gD τ j := fun j => by rw [← hτ]; rfl
          have K : Kp τ τ2 t := by
            refine ⟨fun j _ _ f hf => ?_, fun j _ _ f hf => by rw [di]⟩
            by_cases e6 : j = 16
            · subst e6
              rw [← hτ, gA_s (by decide), gA_sA, upd_ne (by omega)]
            · by_cases e7 : j = 17
              · subst e7
                rw [← hτ, gA_sA, upd_ne (by omega)]
              · rw [ai j e6 e7]
          have lk2 : Lk (EN1 σ) τ2 := by rw [← hτ]; exact ((((EN1_Lk R.1.1).ri (by decide)).ri (by decide)).ra (by decide)).ra (by decide)
          have en2 : En (EN1 σ) τ2 := by rw [← hτ]; exact ((EN1_En R.1.2.1).ra (τ := sI (sI τ 7 (gI τ 7 + 1)) 12 m) (by decide)).ra (by decide)
          have R2 : Rdy (EN1 σ) τ2 t n h d0 := by
            refine ⟨⟨lk2, en2, ?_, ?_, ?_, ?_⟩, ?_, ?_, ?_, ?_, ?_, ?_, ?_⟩
            · rw [ii 9 (by decide) (by decide), EN1_I (by decide) (by decide)]; exact R.1.2.2.1
            · rw [ii 10 (by decide) (by decide)]; exact h10
            · exact R.1.2.2.2.2.1.fr rfl (ai 0 (by decide) (by decide)) (ai 1 (by decide) (by decide)) (fun f _ => by rw [ai 11 (by decide) (by decide)])
            · intro f hf
              rw [ai 11 (by decide) (by decide)]; exact R.1.2.2.2.2.2 f hf
            · rw [ii 8 (by decide) (by decide)]; exact R.2.1
            · rw [ai 14 (by decide) (by decide)]; exact R.2.2.1
            · rw [ai 15 (by decide) (by decide), EN1_I (by decide) (by decide)]; exact R.2.2.2.1
            · rw [ii 6 (by decide) (by decide), EN1_I (by decide) (by decide)]; exact R.2.2.2.2.1
            · rw [EN1_6, ← R.2.2.2.2.2.1, ← hτ, gI_sA, gI_sA, gI_s (by decide), gI_sI]
            · rw [ai 11 (by decide) (by decide)]; exact R.hf
            · rw [ai 12 (by decide) (by decide)]; exact R.he
          refine hB _ v cc dp (EN1 σ) τ2 t _ n h d0 gv wv cv hn hdp hd ht IE CE hk13 (by rw [EN1_6, k1]; omega) (Or.inr ⟨gg, ?_, ?_, ?_, ?_, R2, ?_⟩)
          · rw [← hτ, gA_s (by decide), gA_sA, upd_self]
            rfl
          · rw [← hτ, gA_sA, upd_self]
          · rw [di]; exact h4
          · rw [ai 13 (by decide) (by decide)]; exact h13
          · intro r s τ' wr fs ⟨τ1, g1, g2⟩ ou s14 e14
            rw [e14]
            obtain ⟨fb, -, -⟩ := EN1_back fs
            refine q r _ τ' wr fb ⟨τ1, fun X hX => hm X (g1 X hX), g2⟩ ?_
            rw [sI_sI]
            exact ou.bs rfl K (by rw [EN1_I (by decide) (by decide)]; exact Int.le_refl _)
        · refine hB _ v cc dp (EN1 σ) τ t _ n h d0 gv wv cv hn hdp hd ht IE CE hk13 (by rw [EN1_6, k1]; omega) (Or.inl ⟨gg, fun s14 e14 => ?_⟩)
          · rw [e14]
            refine q _ _ (sI τ 10 6) wi0 (EN1_back (Fr_sI (by decide) (by decide) (by decide) (by decide) IE)).1 ⟨sI τ 10 6, fun X hX => fw_p6 ht h10 h16 hg hkp h17 a1 p1 p2 (by rw [p3, w1]; exact hl) (by rw [p3, w2]; exact hb) x1 (by rw [x2, v1]) gv (by rw [R.a0]; exact gg) hX, Gos.rf _⟩ (Or.inr (Or.inl ⟨?_, ?_, ?_, ?_, ?_⟩))
            · rw [gI_s (by decide), gI_s (by decide), gI_sI]; decide
            · rw [gI_s (by decide), gI_s (by decide), gI_s (by decide)]; exact CE.2
            · rw [gI_sI]; decide
            · exact ((((EN1_Lk R.1.1).ri (by decide)).ci (by decide)).ci (by decide)).ci (by decide)
            · exact ((((EN1_En R.1.2.1)).ci (by decide)).ci (by decide)).ci (by decide)
      ·
        rw [es]
        refine Fin (Fr_D I (EI_Dv h8 I.2.1 wv)) (Rb_Dv h8 x3 R.1) (fun _ => rfl) (fun _ => rfl) (fun _ => rfl) (Kp_Dlo (by decide)) wv (fun X hX => fw_pv ht h10 h16 hg hkp h17 a1 p1 p2 (by rw [p3, w1]; exact hl) (by rw [p3, w2]; exact hb) (kx_bc ht h10 h16 hg (k_ne hkp (by decide)) (bc_10 ht h10 h16 hg hkp h4 wv h17 a1 x1 ?_)))
        rw [x2]
        exact hX
  ·
    have ha := ok.2.2.1 c
    have hkl : gA τ 0 g.toNatClampNeg = 11 := by rw [a0]; exact c
    have eW : ∀ {X}, wp_MO_become (Int32.ofNat t) τ X → FW (Int32.ofNat t) X τ := fun hX => fw_end ht h10 h16 hg (k_ne hkl (by decide)) (kx_bc ht h10 h16 hg (k_ne hkl (by decide)) hX)
    rcases hv_cases I hh with ⟨h8, hgc⟩ | ⟨h8, cc, hgc⟩
    · refine ⟨hv9 hh, hv9 hh, fun _ => tk rfl (fun s es => ?_), fun c' hc' => ?_⟩
      · rw [es]
        exact q.bad I C (τ2 := sI τ 10 4) (R.1.1.ri (by decide)) R.1.2.1 (by decide) (by rw [gI_sI]; decide) (fun X hX => eW (bc_11z ht h16 hg hkl h4 wv h17 (by rw [h8]; rfl) hX)) wi0
      · rw [hgc] at hc'; cases hc'
    · obtain ⟨x1, x2, x3, x4⟩ := ix h8 ha
      refine ⟨hv9 hh, hv9 hh, fun hc => ?_, fun c' hc' => sk (by decide) ⟨ha, fun s es => ?_⟩⟩
      · rw [hgc] at hc; cases hc
      · rw [es]
        refine Fin (Fr_D I (EI_Dl h8 I.2.1 wv)) (Rb_Dl h8 x3 R.1) (fun _ => rfl) (fun _ => rfl) (fun _ => rfl) (Kp_Dlo (by decide)) wv (fun X hX => eW (bc_11n ht h10 h16 hg hkl h4 wv h17 a1 (en_pos h8).2.2.2 x1 ?_))
        rw [x2]
        exact hX
  ·
    exact absurd gl (fun y => y.elim c1 (fun y => y.elim c2 (fun y => y.elim c10 c11)))
theorem m_be (hV : VS V d) (k : Nat) : BS (wp_be V k) d k := by
  induction k with
  | zero =>
    intro g v h' dp σ τ t Q n h d0 hg wv hh hn hdp hd ht I C hk13 hk9 alt
    have := I.2.2.1.2.2
    exfalso
    omega
  | succ k ih => exact m_become hV ih
end BECOME
section SET
variable {V : VT} {B : BT} {d : Nat} {σ τ : CS} {t : Nat} {n : Int32} {h : Nat} {d0 dp : Int32} {Q : UInt64 → CS → Prop}
theorem canSet_or {n : Int32} {σ : CS} {X : Int32 → CS → Prop} (hn : vp_in n 48) (h1 : Gl (gA σ 0 n.toNatClampNeg) → X 1 σ) (h0 : ¬ Gl (gA σ 0 n.toNatClampNeg) → X 0 σ) : wp_PR_canBeSet n σ X :=
  ⟨hn, fun c => h1 (Or.inl c), fun c1 => ⟨fun c => h1 (Or.inr (Or.inl c)), fun c2 => ⟨fun c => h1 (Or.inr (Or.inr (Or.inr c))), fun c3 => ⟨fun c => h1 (Or.inr (Or.inr (Or.inl c))), fun c4 => h0 (fun y => y.elim c1 (fun y => y.elim c2 (fun y => y.elim c4 c3)))⟩⟩⟩⟩
theorem st_s0 {τ : CS} {X : CS → Prop} (ht : t < 80) (hn : vp_in n 48) (h10 : gI τ 10 = 0) (h13 : gA τ 13 t = 0) (hg : vp_in (gA τ 1 n.toNatClampNeg) 48) (gl : Gl (gA τ 0 (gA τ 1 n.toNatClampNeg).toNatClampNeg)) (hX : wp_MO_enter (gA τ 2 n.toNatClampNeg) (gA τ 12 t) (sA τ 13 (upd (gA τ 13) t 1)) X) : wp_MO_set (Int32.ofNat t) n τ X := by
  have e2 : (Int32.ofNat t).toNatClampNeg = t := t_nat (by omega)
  have e3 : vp_in (Int32.ofNat t) 310 := t_in (by omega) (by omega)
  unfold wp_MO_set
  simp only [e2, h13]
  refine ⟨e3, tk trivial ⟨hn, hg, goal_to gl (sk (by decide) ⟨e3, fun s es => ?_⟩)⟩⟩
  subst es
  exact tk h10 ⟨hn, e3, hX⟩
theorem st_s0n {τ : CS} {X : CS → Prop} (ht : t < 80) (hn : vp_in n 48) (h13 : gA τ 13 t = 0) (hg : vp_in (gA τ 1 n.toNatClampNeg) 48) (gl : ¬ Gl (gA τ 0 (gA τ 1 n.toNatClampNeg).toNatClampNeg)) (hX : X (sI (sA τ 13 (upd (gA τ 13) t 1)) 10 6)) : wp_MO_set (Int32.ofNat t) n τ X := by
  have e2 : (Int32.ofNat t).toNatClampNeg = t := t_nat (by omega)
  have e3 : vp_in (Int32.ofNat t) 310 := t_in (by omega) (by omega)
  unfold wp_MO_set
  simp only [e2, h13]
  refine ⟨e3, tk trivial ⟨hn, hg, goal_no gl (tk rfl (fun s es => ⟨e3, fun s2 es2 => ?_⟩))⟩⟩
  subst es2 es
  exact sk (by rw [gI_sA, gI_sI]; decide) hX
theorem st_s1 {τ : CS} {X : CS → Prop} (ht : t < 80) (hn : vp_in n 48) (h13 : gA τ 13 t = 1) (hX : FW (Int32.ofNat t) X (sA (sA (sD τ 4 (vf_upd (gD τ 4) t (gX τ 0))) 16 (upd (gA τ 16) t (gA τ 1 n.toNatClampNeg))) 17 (upd (gA τ 17) t (gA τ 12 t)))) : wp_MO_set (Int32.ofNat t) n τ X := by
  have e2 : (Int32.ofNat t).toNatClampNeg = t := t_nat (by omega)
  have e3 : vp_in (Int32.ofNat t) 310 := t_in (by omega) (by omega)
  unfold FW KX at hX
  simp only [e2] at hX
  unfold wp_MO_set
  simp only [e2, h13]
  refine ⟨e3, sk (by decide) (tk trivial ⟨e3, fun s16 e16 => ⟨hn, e3, fun s17 e17 => ⟨e3, e3, fun s18 e18 => ?_⟩⟩⟩)⟩
  subst e18 e17 e16
  rw [gA_s (k := 16) (j := 17) (by decide), gA_s (k := 16) (j := 12) (by decide)]
  exact hX
theorem m_set (hV : VS V d) (hB : BS B d 9) (hn : vp_in n 48) (hh : hv σ h) (hdp : dp = Int32.ofNat (t + 1)) (hd : t + d = 80) (ht : t < 80) (I : In σ) (C : Cm σ) (R : Rdy σ τ t n h d0) (e6 : gI σ 6 = d0) (h13 : gA τ 13 t = 0) (hk : gA σ 0 n.toNatClampNeg = 13) (ha : vp_in (gA σ 1 n.toNatClampNeg) 48) (hb : vp_in (gA σ 2 n.toNatClampNeg) 48) (q : HQ σ t τ Q) : wp_WK_set V B n h dp σ Q := by
  have hk' : gA τ 0 n.toNatClampNeg = 13 := by rw [R.a0]; exact hk
  refine ⟨hv9 hh, hn, canSet_or ha (fun gl => sk (by decide) ⟨hn, ?_⟩) (fun gl => tk rfl ?_)⟩
  · refine child hV q R hn (k_ne hk (by decide)) hd I C T13 hb hh hdp ht (fun X hX => st_13 R.2.1 ht R.hf hn hk' (st_s0 ht hn R.1.2.2.2.1 h13 (by rw [R.a1]; exact ha) (by rw [R.a1, R.a0]; exact gl) (by rw [R.a2, R.he]; exact hX))) (fun r s τ' wr fs C2 wk q2 R2 kp vx => leave_of (fun _ _ => tk rfl ?_) (fun hl => nl C2 hl)) (fun r s wr hl hq => leave_of (fun a b => lv hl a b) (fun _ => sk (by decide) (hq _ wi0)))
    have I2 := fs.inv I
    have hk2 : gA s 0 n.toNatClampNeg = 13 := by rw [fs.1.1]; exact hk
    have T : Tw τ' (sA (sA (sD τ' 4 (vf_upd (gD τ' 4) t r)) 16 (upd (gA τ' 16) t (gA σ 1 n.toNatClampNeg))) 17 (upd (gA τ' 17) t (en h))) t := by
      refine (T4 (v := r)).tr ((Tw_A (τ := sD τ' 4 (vf_upd (gD τ' 4) t r)) (j := 16) (v := gA σ 1 n.toNatClampNeg) (by decide) (by decide) (by decide)).tr ?_)
      have := Tw_A (τ := sA (sD τ' 4 (vf_upd (gD τ' 4) t r)) 16 (upd (gA τ' 16) t (gA σ 1 n.toNatClampNeg))) (j := 17) (t := t) (v := en h) (by decide) (by decide) (by decide)
      rw [gA_s (k := 16) (j := 17) (by decide)] at this
      exact this
    have o2 := I2.2.2.1
    have st : ∀ X, FW (Int32.ofNat t) X (sA (sA (sD τ' 4 (vf_upd (gD τ' 4) t r)) 16 (upd (gA τ' 16) t (gA σ 1 n.toNatClampNeg))) 17 (upd (gA τ' 17) t (en h))) → wp_MO_step τ' X := fun X hX => st_13 R2.2.1 ht R2.hf hn (by rw [R2.a0]; exact hk2) (st_s1 ht hn (stg kp s13) (by rw [vx, R2.a1, fs.1.2.1, R2.he]; exact hX))
    refine hB _ r h dp s (sA (sA (sD τ' 4 (vf_upd (gD τ' 4) t r)) 16 (upd (gA τ' 16) t (gA σ 1 n.toNatClampNeg))) 17 (upd (gA τ' 17) t (en h))) t _ n h d0 ha wr (fs.vh hh) hn hdp hd ht I2 C2 hk2 (by have := o2.1; have := o2.2.1; omega) (Or.inr ⟨by rw [fs.1.1]; exact gl, ?_, ?_, ?_, ?_, R2.tw T, ?_⟩)
    · rw [gA_s (by decide), gA_sA, upd_self]
    · rw [gA_sA, upd_self]
    · rw [gD_sA, gD_sA, gD_sD, vfu_self]
    · rw [gA_s (by decide), gA_s (by decide)]
      exact stg kp s13
    · intro r2 s2 τ2 wr2 fs2 ⟨τ1, g1, g2⟩ ou
      refine q2 r2 s2 τ2 wr2 fs2 ((Gos_step (R2.pos ht) R2.1.2.2.2.1 (fun X hX => st X (g1 X hX))).tr g2) ?_
      have e : sI s2 6 d0 = s2 := by
        have : gI s2 6 = d0 := by rw [fs2.2.2.1, fs.2.2.1]; exact e6
        rw [← this]
        exact sI_self
      rw [e] at ou
      exact ou.bs rfl T.2.1 (Int.le_refl _)
  · exact q.fail R (T13 (v := 1)) I C ht (by decide) (k' := 6) (by decide) (fun X hX => st_13 R.2.1 ht R.hf hn hk' (st_s0n ht hn h13 (by rw [R.a1]; exact ha) (by rw [R.a1, R.a0]; exact gl) (hX _ rfl)))
end SET
section VALUE
variable {V : VT} {B : BT} {d : Nat}
theorem m_value (hV : VS V d) (hB : BS B d 9) : VS (wp_WK_value V B) (d + 1) := by
  intro n h dp σ τ t Q hn hh hdp htd I C L hq
  have l8 := L.2.1
  have bad : ∀ {k k' : Int32}, k ≠ 0 → k' ≠ 0 → (∀ X : CS → Prop, X (sI τ 10 k') → wp_MO_enter n (en h) τ X) → Q FP.dconst0 (sI σ 1 k) := fun {k k'} e1 e2 he => hq _ _ (sI τ 10 k') wi0 (Fr_sI (by decide) (by decide) (by decide) (by decide) I) ⟨_, he, Gos.rf _⟩ (out_fail L.1.1 L.1.2.1 C.2 e1 e2)
  have d80 : dp ≤ 80 ↔ t < 80 := by
    rw [hdp, Int32.le_iff_toInt_le, t_int (by omega), show (80 : Int32).toInt = 80 from rfl]
    omega
  refine ⟨hv9 hh, ⟨fun h80 => ⟨fun h300 s es => tk rfl ?_, fun h300 s es => sk (by decide) ?_⟩, fun h80 s es => tk rfl ?_⟩⟩
  · rw [es]
    exact bad (k' := 8) (by decide) (by decide) (fun X hX => tk (by rw [L.1.2.2.1]; exact h300) (fun s2 e2 => by rw [e2]; exact hX))
  rotate_left
  · rw [es]
    have t80 : t = 80 := by
      have : ¬ t < 80 := fun g => h80 (d80.mpr g)
      omega
    by_cases h300 : gI σ 0 = 300
    · exact bad (k' := 8) (by decide) (by decide) (fun X hX => tk (by rw [L.1.2.2.1]; exact h300) (fun s2 e2 => by rw [e2]; exact hX))
    · exact bad (k' := 7) (by decide) (by decide) (fun X hX => sk (by rw [L.1.2.2.1]; exact h300) (tk (by rw [l8, t80]; rfl) (fun s2 e2 => by rw [e2]; exact hX)))
  have ht : t < 80 := d80.mp h80
  have hd : t + d = 80 := by omega
  obtain ⟨w0, w3⟩ := I.2.2.2
  have wne : (gI σ 0).toInt ≠ 300 := fun g => h300 (Int32.toInt_inj.mp g)
  have w1 : (gI σ 0 + 1).toInt = (gI σ 0).toInt + 1 := by
    rw [Int32.toInt_add, show (1 : Int32).toInt = 1 from rfl, Int.bmod_eq_of_le (by omega) (by omega)]
  have f1 : Fr σ s := by
    rw [es]
    refine ⟨Pg_sI (by decide), gI_s (by decide), gI_s (by decide), rfl, fun _ h => h, EI_sI (by decide) I.2.1, ?_, ?_⟩
    · unfold Wk
      rw [gI_sI, w1]
      omega
    · rw [gI_sI, w1]
      omega
  have C1 : Cm s := ⟨by rw [es, gI_s (by decide)]; exact C.1, by rw [es, gI_s (by decide)]; exact C.2⟩
  have I1 := f1.inv I
  have hh1 := f1.vh hh
  obtain ⟨c1, c2, c3, c4, c5, c6, c7, c8⟩ := come_of n (en h) L
  rw [← es] at c1 c2
  have R : Rdy s (ET n (en h) τ t) t n h (gI s 6) := ⟨c1, c2.1, c2.2.1, c2.2.2, by rw [c3, f1.2.1], by rw [c4, f1.2.2.1], c6, c7⟩
  have q : HQ s t (ET n (en h) τ t) Q := fun r s2 τ' wr fs go ou => hq r s2 τ' wr (f1.tr fs) ⟨_, fun X hX => enter_to l8 ht (by rw [L.1.2.2.1]; exact h300) X hX, go⟩ (ou.bs f1.2.2.2.1 c5 (by rw [es, gI_sI, w1]; exact Int.le_refl _))
  generalize ET n (en h) τ t = τ1 at *
  have ok := I1.1.1 n hn
  clear es f1 L hq bad
  refine ⟨hn, hn, fun c => m_num hn ht I1 C1 R rfl c q, fun k0 => ⟨fun c => ⟨ok.1 c, m_var hn ht I1 C1 R rfl c (ok.1 c) q⟩, fun k1 => ⟨fun c => ?_, fun k9 => ⟨fun c => m_param hV hn hh1 hdp hd ht I1 C1 R rfl c8 c (ok.2.1 c) q, fun k10 => ⟨fun c => m_local hn hh1 ht I1 C1 R rfl c (ok.2.2.1 c) q, fun k11 => ⟨fun c => m_call hV hn hh1 hdp hd ht I1 C1 R rfl c8 c (ok.2.2.2.1 c).1 (ok.2.2.2.1 c).2.1 (ok.2.2.2.1 c).2.2 q, fun k12 => ⟨fun c => ?_, fun k13 => ⟨fun c => ?_, fun k14 => ⟨fun c => ⟨hv9 hh, 302, ?_⟩, fun k15 => ⟨fun c => m_jump hn ht I1 C1 R c (ok.2.2.2.2.1 c) q, fun k16 => ⟨fun c => m_label hV hn hh1 hdp hd ht I1 C1 R rfl c8 c (ok.2.2.2.2.2.1 c).1 (ok.2.2.2.2.2.1 c).2 q, fun k17 => ?_⟩⟩⟩⟩⟩⟩⟩⟩⟩⟩⟩
  · have ab := ok.2.2.2.2.2.2.2.1 k0 k1 (by rw [c]; decide) (by rw [c]; decide) (by rw [c]; decide) (by rw [c]; decide) (by rw [c]; decide)
    exact m_if hV hn hh1 hdp hd ht I1 C1 R rfl c8 c ab.1 ab.2 (ok.2.2.2.2.2.2.1 c) q
  · have ab := ok.2.2.2.2.2.2.2.1 k0 k1 k10 k11 k12 (by rw [c]; decide) (by rw [c]; decide)
    exact m_set hV hB hn hh1 hdp hd ht I1 C1 R rfl c8 c ab.1 ab.2 q
  · have ab := ok.2.2.2.2.2.2.2.1 k0 k1 k10 k11 k12 (by rw [c]; decide) (by rw [c]; decide)
    exact m_seq hV hn hh1 hdp hd ht I1 C1 R rfl c8 c ab.1 ab.2 q
  · have ab := ok.2.2.2.2.2.2.2.1 k0 k1 k10 k11 k12 (by rw [c]; decide) (by rw [c]; decide)
    exact m_loop hV hn hdp hd ht 301 0 s τ1 rfl (by decide) I1.2.2.2.1 hh1 I1 C1 R rfl (by rw [c8]; decide) c ab.1 ab.2 q
  · have ab := ok.2.2.2.2.2.2.2.1 k0 k1 k10 k11 k12 k16 k17
    exact m_two hV hn hh1 hdp hd ht I1 C1 R rfl c8 (kinds ok.2.2.2.2.2.2.2.2 k0 k1 k9 k10 k11 k12 k13 k14 k15 k16 k17) ab.1 ab.2 q
theorem m_va (d : Nat) : VS (wp_va d) d := by
  induction d with
  | zero =>
    intro n h dp σ τ t Q hn hh hdp htd I C L hq
    exfalso
    omega
  | succ d ih => exact m_value ih (m_be ih 9)
end VALUE
