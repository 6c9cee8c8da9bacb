abbrev VT : Type := Int32 → Nat → Int32 → CS → (UInt64 → CS → Prop) → Prop
abbrev BT : Type := Int32 → UInt64 → Nat → Int32 → CS → (UInt64 → CS → Prop) → Prop
def wp_WK_ofTwo (V : VT) (p1 : Int32) (g2 : Nat) (p3 : Int32) (σ : CS) (Q : UInt64 → CS → Prop) : Prop := (g2 < 9 ∧ (vp_in p1 48 ∧ (V (gA σ 1 p1.toNatClampNeg) g2 (p3 + 1) σ (fun r1 s2 => (wp_WK_leaving  s2 (fun r3 s4 => ((r3 = 0 → (vp_in p1 48 ∧ (V (gA s4 2 p1.toNatClampNeg) g2 (p3 + 1) s4 (fun r6 s7 => (wp_WK_leaving  s7 (fun r8 s9 => ((r8 = 0 → (vp_in p1 48 ∧ (((gA s9 0 p1.toNatClampNeg) = 2 → (wp_NF_rounded r1 s9 (fun r12 s13 => (wp_NF_rounded r6 s13 (fun r14 s15 => (wp_WK_elementAt r12 r14 s15 (fun r16 s17 => Q r16 s17))))))) ∧ (¬ (gA s9 0 p1.toNatClampNeg) = 2 → (((gA s9 0 p1.toNatClampNeg) = 3 → (vf_n64 (FP.dadd r1 r6) ∧ (wp_WK_limited (FP.dadd r1 r6) s9 (fun r19 s20 => Q r19 s20)))) ∧ (¬ (gA s9 0 p1.toNatClampNeg) = 3 → (((gA s9 0 p1.toNatClampNeg) = 4 → (vf_n64 (FP.dsub r1 r6) ∧ (wp_WK_limited (FP.dsub r1 r6) s9 (fun r22 s23 => Q r22 s23)))) ∧ (¬ (gA s9 0 p1.toNatClampNeg) = 4 → (((gA s9 0 p1.toNatClampNeg) = 5 → (vf_n64 (FP.dmul r1 r6) ∧ (wp_WK_limited (FP.dmul r1 r6) s9 (fun r25 s26 => Q r25 s26)))) ∧ (¬ (gA s9 0 p1.toNatClampNeg) = 5 → (((gA s9 0 p1.toNatClampNeg) = 6 → (((Op.cmpValue (FP.dcmp r6 FP.dconst0) .l) = 0 → (wp_WK_fail 1 s9 (fun r31 s32 => Q r31 s32))) ∧ (¬ (Op.cmpValue (FP.dcmp r6 FP.dconst0) .l) = 0 → (vf_n64 (FP.ddiv r1 r6) ∧ (wp_WK_limited (FP.ddiv r1 r6) s9 (fun r29 s30 => Q r29 s30)))))) ∧ (¬ (gA s9 0 p1.toNatClampNeg) = 6 → (((gA s9 0 p1.toNatClampNeg) = 7 → (wp_NF_rounded r1 s9 (fun r34 s35 => (wp_NF_rounded r6 s35 (fun r36 s37 => (wp_WK_quotient r34 r36 s37 (fun r38 s39 => Q r38 s39))))))) ∧ (¬ (gA s9 0 p1.toNatClampNeg) = 7 → ((0 ≤ (Op.cmpValue (FP.dcmp r1 r6) .g) → Q FP.dconst0 s9) ∧ (¬ 0 ≤ (Op.cmpValue (FP.dcmp r1 r6) .g) → Q FP.dconst1 s9)))))))))))))))) ∧ (¬ r8 = 0 → Q FP.dconst0 s9)))))))) ∧ (¬ r3 = 0 → Q FP.dconst0 s4))))))))
set_option maxHeartbeats 4000000 in
set_option maxRecDepth 100000 in
theorem c_WK_ofTwo {l : Launch} {D : va_G} {cs : CI} {ad : Nat → Nat} (hi : aI ad 51) {V : VT} {fV lV : Nat} (hf : 5 ≤ fV) (hlo : 100 ≤ lV) (hV : ∀ {n : Int32} {h : Nat} {dp : Int32} {σ : CS} {Q : UInt64 → CS → Prop}, V n h dp σ Q → Met l y_WK_value (.code y_WK_value b_WK_value 5 (some .double) :: wC) ({ frames := fV, cells := 0, slots := 0, locals := lV }) (va_Pc [.ref (ad 12), .int n, .ref (ad (15 + h)), .int dp] (cP D cs ad σ)) (va_Qd Q (cP D cs ad) (aK ad 51)) 0 0 (aK ad 51)) {p1 : Int32} {g2 : Nat} {p3 : Int32} {σ : CS} {Q : UInt64 → CS → Prop} (hq : wp_WK_ofTwo V p1 g2 p3 σ Q) : Met l y_WK_ofTwo (.code y_WK_ofTwo b_WK_ofTwo 8 (some .double) :: wC) ({ frames := fV + 1, cells := 0, slots := 0, locals := lV + 24 }) (va_Pc [.ref (ad 12), .int p1, .ref (ad (15 + g2)), .int p3] (cP D cs ad σ)) (va_Qd Q (cP D cs ad) (aK ad 51)) 0 0 (aK ad 51) := by
  refine Met.ofW (cc := b_WK_ofTwo) (maxL := 8) (ret := (some .double)) (by decide) rfl ?_
  intro p e s m args below meth c s₁ B hml hv
  obtain ⟨rfl, hP, hK, hN⟩ := hv
  have hx := B.exec
  have hb := B.bytes
  have hr := B.returns
  have hts := atoms_spec (ws := .code y_WK_ofTwo b_WK_ofTwo 8 (some .double) :: wC) B.pre
  have ht : ∀ w ∈ wC, w.before _ s = true := fun w h => hts w (List.mem_cons_of_mem _ h)
  have hown : s.vm.findClass R_WK = some m.cls := findClass_of_methodNamed B.named
  have hlocks := B.notSynchronized
  have hS : va_S (aK ad 51) s.heap s.heap [] := va_S.rf
  have hl := lv_entry ([.ref (ad 12), .int p1, .ref (ad (15 + g2)), .int p3]) (n := 8) (Nat.le_of_ble_eq_true rfl)
  rw [lg_entry_eq]
  generalize (lg_sl ([.ref (ad 12), .int p1, .ref (ad (15 + g2)), .int p3]) ++ List.replicate (8 - (lg_sl ([.ref (ad 12), .int p1, .ref (ad (15 + g2)), .int p3])).length) Slot.unset).toArray = ls at hl ⊢
  have hl : lv_has ls 8 [(0, .ref (ad 12)), (1, .int p1), (2, .ref (ad (15 + g2))), (3, .int p3)] := hl
  unfold wp_WK_ofTwo at hq
  have hh_g2 : g2 < 9 := hq.1
  have hq := hq.2
  have hh8 : 8 < 9 := by decide
  refine lv_aload_n hx hb d_WK_ofTwo_0 rfl (lv_at hl 0 rfl) ?_
  refine lv_aload_n hx hb d_WK_ofTwo_1 rfl (lv_at hl 0 rfl) ?_
  refine cw_get (C := R_WK) (T := F_WK) (N := 13) (v := .ref (ad 1)) hx hb hts (in_WK _) hown hK hP 12 (by decide) rfl rfl 5 (by decide) (ht _ wC_192) rfl d_WK_ofTwo_2 ?_
  refine cw_get (C := R_PR) (T := F_PR) (N := 8) (v := .ref (ad 3)) hx hb hts (in_PR _) hown hK hP 1 (by decide) rfl rfl 1 (by decide) (ht _ wC_82) rfl d_WK_ofTwo_5 ?_
  refine lv_iload_n hx hb d_WK_ofTwo_8 rfl (lv_at hl 1 rfl) ?_
  refine cw_iald hx hb hK hP 3 (by decide) rfl 0 rfl hq.1 d_WK_ofTwo_9 ?_
  have hq := hq.2
  refine lv_aload_n hx hb d_WK_ofTwo_10 rfl (lv_at hl 2 rfl) ?_
  refine lv_iload_n hx hb d_WK_ofTwo_11 rfl (lv_at hl 3 rfl) ?_
  refine lv_iconst (v := 1) hx hb d_WK_ofTwo_12 (by decide) ?_
  refine lv_iadd hx hb d_WK_ofTwo_13 ?_
  refine va_calld (va_runV (As := [.int (gA σ 1 p1.toNatClampNeg), .ref (ad (15 + g2)), .int (p3 + 1)]) (rest := []) ⟨hx, hb, hml, hown, hts⟩ (hV hq) (cwV 3 hts (good_V wC_439 wC_441 wC_2 wC_48 wC_442) rfl rfl rfl (by decide +kernel) ⟨(show fV + 1 ≤ fV + 1 by omega), (show 8 + (5 + 11) + lV ≤ lV + 24 by omega)⟩) ⟨cP_blind, va_recv hK hP (ci := 4) (q0 := 12) rfl (wd_at (by decide) rfl), fun U hU hW => ⟨rfl, by rw [hU]; exact hP, va_K.moved hW.alike hK, hN.warm hW⟩⟩ rfl rfl hl.1 rfl (lv_room (Nat.le_of_ble_eq_true rfl)) d_WK_ofTwo_14 ⟨Nat.le_of_ble_eq_true rfl, Nat.le_of_ble_eq_true rfl⟩) hS (fun q _ h => h) (fun q h => h) (fun r1 s2 t H locs ht0 hvm hq hB hz1 hk1 hS => ?_)
  obtain ⟨hP, -, -⟩ := hB
  rw [ht0] at hP
  refine lv_dstore (lv' := [(4, .double r1), (0, .ref (ad 12)), (1, .int p1), (2, .ref (ad (15 + g2))), (3, .int p3)]) hx hb d_WK_ofTwo_17 hl (by decide) rfl (fun ls hl => ?_)
  refine lv_aload_n hx hb d_WK_ofTwo_19 rfl (lv_at hl 1 rfl) ?_
  refine va_calli (va_runV (As := []) (rest := []) ⟨hx, hb, hml, hown, hts⟩ (c_WK_leaving (D := D) (cs := cs) hi hq) (cwV 0 hts (good_V wC_452 wC_454 wC_5 wC_48 wC_455) rfl rfl rfl (by decide +kernel) ⟨(show 0 + 1 ≤ fV + 1 by omega), (show 8 + (1 + 11) + 0 ≤ lV + 24 by omega)⟩) ⟨cP_blind, va_recv hK hP (ci := 4) (q0 := 12) rfl (wd_at (by decide) rfl), fun U hU hW => ⟨rfl, by rw [hU]; exact hP, va_K.moved hW.alike hK, hN.warm hW⟩⟩ rfl rfl hl.1 rfl (lv_room (Nat.le_of_ble_eq_true rfl)) d_WK_ofTwo_20 ⟨Nat.le_of_ble_eq_true rfl, Nat.le_of_ble_eq_true rfl⟩) hS (fun q _ h => h) (fun q h => h) (fun r3 s4 t H locs ht0 hvm hq hB hz1 hk1 hS => ?_)
  obtain ⟨hP, -, -⟩ := hB
  rw [ht0] at hP
  refine lv_if_eq (tgt := 28) hx hb d_WK_ofTwo_23 (by decide) (fun c5 => ?_) (fun c5 => ?_)
  · have hq := hq.1 c5
    refine lv_aload_n hx hb d_WK_ofTwo_28 rfl (lv_at hl 1 rfl) ?_
    refine lv_aload_n hx hb d_WK_ofTwo_29 rfl (lv_at hl 1 rfl) ?_
    refine cw_get (C := R_WK) (T := F_WK) (N := 13) (v := .ref (ad 1)) hx hb hts (in_WK _) hown hK hP 12 (by decide) rfl rfl 5 (by decide) (ht _ wC_192) rfl d_WK_ofTwo_30 ?_
    refine cw_get (C := R_PR) (T := F_PR) (N := 8) (v := .ref (ad 4)) hx hb hts (in_PR _) hown hK hP 1 (by decide) rfl rfl 2 (by decide) (ht _ wC_85) rfl d_WK_ofTwo_33 ?_
    refine lv_iload_n hx hb d_WK_ofTwo_36 rfl (lv_at hl 2 rfl) ?_
    refine cw_iald hx hb hK hP 4 (by decide) rfl 0 rfl hq.1 d_WK_ofTwo_37 ?_
    have hq := hq.2
    refine lv_aload_n hx hb d_WK_ofTwo_38 rfl (lv_at hl 3 rfl) ?_
    refine lv_iload_n hx hb d_WK_ofTwo_39 rfl (lv_at hl 4 rfl) ?_
    refine lv_iconst (v := 1) hx hb d_WK_ofTwo_40 (by decide) ?_
    refine lv_iadd hx hb d_WK_ofTwo_41 ?_
    refine va_calld (va_runV (As := [.int (gA s4 2 p1.toNatClampNeg), .ref (ad (15 + g2)), .int (p3 + 1)]) (rest := []) ⟨hx, hb, hml, hown, hts⟩ (hV hq) (cwV 3 hts (good_V wC_439 wC_441 wC_2 wC_48 wC_442) rfl rfl rfl (by decide +kernel) ⟨(show fV + 1 ≤ fV + 1 by omega), (show 8 + (5 + 11) + lV ≤ lV + 24 by omega)⟩) ⟨cP_blind, va_recv hK hP (ci := 4) (q0 := 12) rfl (wd_at (by decide) rfl), fun U hU hW => ⟨rfl, by rw [hU]; exact hP, va_K.moved hW.alike hK, hN.warm hW⟩⟩ rfl rfl hl.1 rfl (lv_room (Nat.le_of_ble_eq_true rfl)) d_WK_ofTwo_42 ⟨Nat.le_of_ble_eq_true rfl, Nat.le_of_ble_eq_true rfl⟩) hS (fun q _ h => h) (fun q h => h) (fun r6 s7 t H locs ht0 hvm hq hB hz1 hk1 hS => ?_)
    obtain ⟨hP, -, -⟩ := hB
    rw [ht0] at hP
    refine lv_dstore (lv' := [(6, .double r6), (4, .double r1), (0, .ref (ad 12)), (1, .int p1), (2, .ref (ad (15 + g2))), (3, .int p3)]) hx hb d_WK_ofTwo_45 hl (by decide) rfl (fun ls hl => ?_)
    refine lv_aload_n hx hb d_WK_ofTwo_47 rfl (lv_at hl 2 rfl) ?_
    refine va_calli (va_runV (As := []) (rest := []) ⟨hx, hb, hml, hown, hts⟩ (c_WK_leaving (D := D) (cs := cs) hi hq) (cwV 0 hts (good_V wC_452 wC_454 wC_5 wC_48 wC_455) rfl rfl rfl (by decide +kernel) ⟨(show 0 + 1 ≤ fV + 1 by omega), (show 8 + (1 + 11) + 0 ≤ lV + 24 by omega)⟩) ⟨cP_blind, va_recv hK hP (ci := 4) (q0 := 12) rfl (wd_at (by decide) rfl), fun U hU hW => ⟨rfl, by rw [hU]; exact hP, va_K.moved hW.alike hK, hN.warm hW⟩⟩ rfl rfl hl.1 rfl (lv_room (Nat.le_of_ble_eq_true rfl)) d_WK_ofTwo_48 ⟨Nat.le_of_ble_eq_true rfl, Nat.le_of_ble_eq_true rfl⟩) hS (fun q _ h => h) (fun q h => h) (fun r8 s9 t H locs ht0 hvm hq hB hz1 hk1 hS => ?_)
    obtain ⟨hP, -, -⟩ := hB
    rw [ht0] at hP
    refine lv_if_eq (tgt := 56) hx hb d_WK_ofTwo_51 (by decide) (fun c10 => ?_) (fun c10 => ?_)
    · have hq := hq.1 c10
      refine lv_aload_n hx hb d_WK_ofTwo_56 rfl (lv_at hl 2 rfl) ?_
      refine cw_get (C := R_WK) (T := F_WK) (N := 13) (v := .ref (ad 1)) hx hb hts (in_WK _) hown hK hP 12 (by decide) rfl rfl 5 (by decide) (ht _ wC_192) rfl d_WK_ofTwo_57 ?_
      refine cw_get (C := R_PR) (T := F_PR) (N := 8) (v := .ref (ad 2)) hx hb hts (in_PR _) hown hK hP 1 (by decide) rfl rfl 0 (by decide) (ht _ wC_79) rfl d_WK_ofTwo_60 ?_
      refine lv_iload_n hx hb d_WK_ofTwo_63 rfl (lv_at hl 3 rfl) ?_
      refine cw_iald hx hb hK hP 2 (by decide) rfl 0 rfl hq.1 d_WK_ofTwo_64 ?_
      have hq := hq.2
      by_cases c11 : (gA s9 0 p1.toNatClampNeg) = 2
      · have hq := hq.1 c11
        refine lv_tableIn (tgt := 104) hx hb d_WK_ofTwo_65 (by rw [c11]; decide) (by rw [c11]; decide) (by rw [c11]; rfl) (by decide) ?_
        refine lv_aload_n hx hb d_WK_ofTwo_104 rfl (lv_at hl 2 rfl) ?_
        refine lv_dload hx hb d_WK_ofTwo_105 (lv_at hl 1 rfl) ?_
        refine va_calll (va_runSN (As := [.double r1]) (rest := [.ref (ad 12)]) ⟨hx, hb, hml, hown, hts⟩ (c_NF_rounded (D := D) (cs := cs) hi hq) (⟨va_cnB 1 hts (good_C wC_421) rfl rfl rfl (hN _ wN_517) (ht _ wC_44) (by decide +kernel) ⟨(show 0 + 1 ≤ fV + 1 by omega), (show 8 + (6 + 11) + 0 ≤ lV + 24 by omega)⟩, (ht _ wC_420), trivial⟩) ⟨cP_blind, fun U hU hW => ⟨rfl, by rw [hU]; exact hP, va_K.moved hW.alike hK, hN.warm hW⟩⟩ rfl rfl hl.1 rfl (lv_room (Nat.le_of_ble_eq_true rfl)) d_WK_ofTwo_107 ⟨Nat.le_of_ble_eq_true rfl, Nat.le_of_ble_eq_true rfl⟩) hS (fun q _ h => h) (fun q h => h) (fun r12 s13 t H locs ht0 hvm hq hB hz1 hk1 hS => ?_)
        obtain ⟨hP, -, -⟩ := hB
        rw [ht0] at hP
        refine lv_dload hx hb d_WK_ofTwo_110 (lv_at hl 0 rfl) ?_
        refine va_calll (va_runSN (As := [.double r6]) (rest := [.long r12, .ref (ad 12)]) ⟨hx, hb, hml, hown, hts⟩ (c_NF_rounded (D := D) (cs := cs) hi hq) (⟨va_cnB 1 hts (good_C wC_421) rfl rfl rfl (hN _ wN_517) (ht _ wC_44) (by decide +kernel) ⟨(show 0 + 1 ≤ fV + 1 by omega), (show 8 + (6 + 11) + 0 ≤ lV + 24 by omega)⟩, (ht _ wC_420), trivial⟩) ⟨cP_blind, fun U hU hW => ⟨rfl, by rw [hU]; exact hP, va_K.moved hW.alike hK, hN.warm hW⟩⟩ rfl rfl hl.1 rfl (lv_room (Nat.le_of_ble_eq_true rfl)) d_WK_ofTwo_112 ⟨Nat.le_of_ble_eq_true rfl, Nat.le_of_ble_eq_true rfl⟩) hS (fun q _ h => h) (fun q h => h) (fun r14 s15 t H locs ht0 hvm hq hB hz1 hk1 hS => ?_)
        obtain ⟨hP, -, -⟩ := hB
        rw [ht0] at hP
        refine va_calld (va_runV (As := [.long r12, .long r14]) (rest := []) ⟨hx, hb, hml, hown, hts⟩ (c_WK_elementAt (D := D) (cs := cs) hi hq) (cwV 2 hts (good_V wC_558 wC_560 wC_20 wC_48 wC_561) rfl rfl rfl (by decide +kernel) ⟨(show 1 + 1 ≤ fV + 1 by omega), (show 8 + (5 + 11) + 24 ≤ lV + 24 by omega)⟩) ⟨cP_blind, va_recv hK hP (ci := 4) (q0 := 12) rfl (wd_at (by decide) rfl), fun U hU hW => ⟨rfl, by rw [hU]; exact hP, va_K.moved hW.alike hK, hN.warm hW⟩⟩ rfl rfl hl.1 rfl (lv_room (Nat.le_of_ble_eq_true rfl)) d_WK_ofTwo_115 ⟨Nat.le_of_ble_eq_true rfl, Nat.le_of_ble_eq_true rfl⟩) hS (fun q _ h => h) (fun q h => h) (fun r16 s17 t H locs ht0 hvm hq hB hz1 hk1 hS => ?_)
        obtain ⟨hP, -, -⟩ := hB
        rw [ht0] at hP
        exact W.dret hx hb hr (fun t ht hW => ⟨⟨r16, s17, rfl, hq, by rw [ht]; exact hP, va_K.moved hW.alike hK, hN.warm hW⟩, hS.F ht⟩) hS.2.2 d_WK_ofTwo_118
      have hq := hq.2 c11
      by_cases c18 : (gA s9 0 p1.toNatClampNeg) = 3
      · have hq := hq.1 c18
        refine lv_tableIn (tgt := 119) hx hb d_WK_ofTwo_65 (by rw [c18]; decide) (by rw [c18]; decide) (by rw [c18]; rfl) (by decide) ?_
        refine lv_aload_n hx hb d_WK_ofTwo_119 rfl (lv_at hl 2 rfl) ?_
        refine lv_dload hx hb d_WK_ofTwo_120 (lv_at hl 1 rfl) ?_
        refine lv_dload hx hb d_WK_ofTwo_122 (lv_at hl 0 rfl) ?_
        refine lv_dadd hx hb d_WK_ofTwo_124 hq.1 ?_
        have hq := hq.2
        refine va_calld (va_runV (As := [.double (FP.dadd r1 r6)]) (rest := []) ⟨hx, hb, hml, hown, hts⟩ (c_WK_limited (D := D) (cs := cs) hi hq) (cwV 1 hts (good_V wC_562 wC_564 wC_21 wC_48 wC_565) rfl rfl rfl (by decide +kernel) ⟨(show 1 + 1 ≤ fV + 1 by omega), (show 8 + (3 + 11) + 21 ≤ lV + 24 by omega)⟩) ⟨cP_blind, va_recv hK hP (ci := 4) (q0 := 12) rfl (wd_at (by decide) rfl), fun U hU hW => ⟨rfl, by rw [hU]; exact hP, va_K.moved hW.alike hK, hN.warm hW⟩⟩ rfl rfl hl.1 rfl (lv_room (Nat.le_of_ble_eq_true rfl)) d_WK_ofTwo_125 ⟨Nat.le_of_ble_eq_true rfl, Nat.le_of_ble_eq_true rfl⟩) hS (fun q _ h => h) (fun q h => h) (fun r19 s20 t H locs ht0 hvm hq hB hz1 hk1 hS => ?_)
        obtain ⟨hP, -, -⟩ := hB
        rw [ht0] at hP
        exact W.dret hx hb hr (fun t ht hW => ⟨⟨r19, s20, rfl, hq, by rw [ht]; exact hP, va_K.moved hW.alike hK, hN.warm hW⟩, hS.F ht⟩) hS.2.2 d_WK_ofTwo_128
      have hq := hq.2 c18
      by_cases c21 : (gA s9 0 p1.toNatClampNeg) = 4
      · have hq := hq.1 c21
        refine lv_tableIn (tgt := 129) hx hb d_WK_ofTwo_65 (by rw [c21]; decide) (by rw [c21]; decide) (by rw [c21]; rfl) (by decide) ?_
        refine lv_aload_n hx hb d_WK_ofTwo_129 rfl (lv_at hl 2 rfl) ?_
        refine lv_dload hx hb d_WK_ofTwo_130 (lv_at hl 1 rfl) ?_
        refine lv_dload hx hb d_WK_ofTwo_132 (lv_at hl 0 rfl) ?_
        refine lv_dsub hx hb d_WK_ofTwo_134 hq.1 ?_
        have hq := hq.2
        refine va_calld (va_runV (As := [.double (FP.dsub r1 r6)]) (rest := []) ⟨hx, hb, hml, hown, hts⟩ (c_WK_limited (D := D) (cs := cs) hi hq) (cwV 1 hts (good_V wC_562 wC_564 wC_21 wC_48 wC_565) rfl rfl rfl (by decide +kernel) ⟨(show 1 + 1 ≤ fV + 1 by omega), (show 8 + (3 + 11) + 21 ≤ lV + 24 by omega)⟩) ⟨cP_blind, va_recv hK hP (ci := 4) (q0 := 12) rfl (wd_at (by decide) rfl), fun U hU hW => ⟨rfl, by rw [hU]; exact hP, va_K.moved hW.alike hK, hN.warm hW⟩⟩ rfl rfl hl.1 rfl (lv_room (Nat.le_of_ble_eq_true rfl)) d_WK_ofTwo_135 ⟨Nat.le_of_ble_eq_true rfl, Nat.le_of_ble_eq_true rfl⟩) hS (fun q _ h => h) (fun q h => h) (fun r22 s23 t H locs ht0 hvm hq hB hz1 hk1 hS => ?_)
        obtain ⟨hP, -, -⟩ := hB
        rw [ht0] at hP
        exact W.dret hx hb hr (fun t ht hW => ⟨⟨r22, s23, rfl, hq, by rw [ht]; exact hP, va_K.moved hW.alike hK, hN.warm hW⟩, hS.F ht⟩) hS.2.2 d_WK_ofTwo_138
      have hq := hq.2 c21
      by_cases c24 : (gA s9 0 p1.toNatClampNeg) = 5
      · have hq := hq.1 c24
        refine lv_tableIn (tgt := 139) hx hb d_WK_ofTwo_65 (by rw [c24]; decide) (by rw [c24]; decide) (by rw [c24]; rfl) (by decide) ?_
        refine lv_aload_n hx hb d_WK_ofTwo_139 rfl (lv_at hl 2 rfl) ?_
        refine lv_dload hx hb d_WK_ofTwo_140 (lv_at hl 1 rfl) ?_
        refine lv_dload hx hb d_WK_ofTwo_142 (lv_at hl 0 rfl) ?_
        refine lv_dmul hx hb d_WK_ofTwo_144 hq.1 ?_
        have hq := hq.2
        refine va_calld (va_runV (As := [.double (FP.dmul r1 r6)]) (rest := []) ⟨hx, hb, hml, hown, hts⟩ (c_WK_limited (D := D) (cs := cs) hi hq) (cwV 1 hts (good_V wC_562 wC_564 wC_21 wC_48 wC_565) rfl rfl rfl (by decide +kernel) ⟨(show 1 + 1 ≤ fV + 1 by omega), (show 8 + (3 + 11) + 21 ≤ lV + 24 by omega)⟩) ⟨cP_blind, va_recv hK hP (ci := 4) (q0 := 12) rfl (wd_at (by decide) rfl), fun U hU hW => ⟨rfl, by rw [hU]; exact hP, va_K.moved hW.alike hK, hN.warm hW⟩⟩ rfl rfl hl.1 rfl (lv_room (Nat.le_of_ble_eq_true rfl)) d_WK_ofTwo_145 ⟨Nat.le_of_ble_eq_true rfl, Nat.le_of_ble_eq_true rfl⟩) hS (fun q _ h => h) (fun q h => h) (fun r25 s26 t H locs ht0 hvm hq hB hz1 hk1 hS => ?_)
        obtain ⟨hP, -, -⟩ := hB
        rw [ht0] at hP
        exact W.dret hx hb hr (fun t ht hW => ⟨⟨r25, s26, rfl, hq, by rw [ht]; exact hP, va_K.moved hW.alike hK, hN.warm hW⟩, hS.F ht⟩) hS.2.2 d_WK_ofTwo_148
      have hq := hq.2 c24
      by_cases c27 : (gA s9 0 p1.toNatClampNeg) = 6
      · have hq := hq.1 c27
        refine lv_tableIn (tgt := 149) hx hb d_WK_ofTwo_65 (by rw [c27]; decide) (by rw [c27]; decide) (by rw [c27]; rfl) (by decide) ?_
        refine lv_dload hx hb d_WK_ofTwo_149 (lv_at hl 0 rfl) ?_
        refine lv_dconst0 hx hb d_WK_ofTwo_151 ?_
        refine lv_dcmp hx hb d_WK_ofTwo_152 ?_
        refine lv_if_ne (tgt := 164) hx hb d_WK_ofTwo_153 (by decide) (fun c28 => ?_) (fun c28 => ?_)
        · have hq := hq.2 c28
          refine lv_aload_n hx hb d_WK_ofTwo_164 rfl (lv_at hl 2 rfl) ?_
          refine lv_dload hx hb d_WK_ofTwo_165 (lv_at hl 1 rfl) ?_
          refine lv_dload hx hb d_WK_ofTwo_167 (lv_at hl 0 rfl) ?_
          refine lv_ddiv hx hb d_WK_ofTwo_169 hq.1 ?_
          have hq := hq.2
          refine va_calld (va_runV (As := [.double (FP.ddiv r1 r6)]) (rest := []) ⟨hx, hb, hml, hown, hts⟩ (c_WK_limited (D := D) (cs := cs) hi hq) (cwV 1 hts (good_V wC_562 wC_564 wC_21 wC_48 wC_565) rfl rfl rfl (by decide +kernel) ⟨(show 1 + 1 ≤ fV + 1 by omega), (show 8 + (3 + 11) + 21 ≤ lV + 24 by omega)⟩) ⟨cP_blind, va_recv hK hP (ci := 4) (q0 := 12) rfl (wd_at (by decide) rfl), fun U hU hW => ⟨rfl, by rw [hU]; exact hP, va_K.moved hW.alike hK, hN.warm hW⟩⟩ rfl rfl hl.1 rfl (lv_room (Nat.le_of_ble_eq_true rfl)) d_WK_ofTwo_170 ⟨Nat.le_of_ble_eq_true rfl, Nat.le_of_ble_eq_true rfl⟩) hS (fun q _ h => h) (fun q h => h) (fun r29 s30 t H locs ht0 hvm hq hB hz1 hk1 hS => ?_)
          obtain ⟨hP, -, -⟩ := hB
          rw [ht0] at hP
          exact W.dret hx hb hr (fun t ht hW => ⟨⟨r29, s30, rfl, hq, by rw [ht]; exact hP, va_K.moved hW.alike hK, hN.warm hW⟩, hS.F ht⟩) hS.2.2 d_WK_ofTwo_173
        · have hq := hq.1 c28
          refine lv_aload_n hx hb d_WK_ofTwo_156 rfl (lv_at hl 2 rfl) ?_
          refine lv_iconst (v := 1) hx hb d_WK_ofTwo_157 (by decide) ?_
          refine va_calld (va_runV (As := [.int 1]) (rest := []) ⟨hx, hb, hml, hown, hts⟩ (c_WK_fail (D := D) (cs := cs) hi hq) (cwV 1 hts (good_V wC_464 wC_466 wC_7 wC_48 wC_467) rfl rfl rfl (by decide +kernel) ⟨(show 0 + 1 ≤ fV + 1 by omega), (show 8 + (2 + 11) + 0 ≤ lV + 24 by omega)⟩) ⟨cP_blind, va_recv hK hP (ci := 4) (q0 := 12) rfl (wd_at (by decide) rfl), fun U hU hW => ⟨rfl, by rw [hU]; exact hP, va_K.moved hW.alike hK, hN.warm hW⟩⟩ rfl rfl hl.1 rfl (lv_room (Nat.le_of_ble_eq_true rfl)) d_WK_ofTwo_158 ⟨Nat.le_of_ble_eq_true rfl, Nat.le_of_ble_eq_true rfl⟩) hS (fun q _ h => h) (fun q h => h) (fun r31 s32 t H locs ht0 hvm hq hB hz1 hk1 hS => ?_)
          obtain ⟨hP, -, -⟩ := hB
          rw [ht0] at hP
          refine lv_goto (tgt := 173) hx hb d_WK_ofTwo_161 (by decide) ?_
          exact W.dret hx hb hr (fun t ht hW => ⟨⟨r31, s32, rfl, hq, by rw [ht]; exact hP, va_K.moved hW.alike hK, hN.warm hW⟩, hS.F ht⟩) hS.2.2 d_WK_ofTwo_173
      have hq := hq.2 c27
      by_cases c33 : (gA s9 0 p1.toNatClampNeg) = 7
      · have hq := hq.1 c33
        refine lv_tableIn (tgt := 174) hx hb d_WK_ofTwo_65 (by rw [c33]; decide) (by rw [c33]; decide) (by rw [c33]; rfl) (by decide) ?_
        refine lv_aload_n hx hb d_WK_ofTwo_174 rfl (lv_at hl 2 rfl) ?_
        refine lv_dload hx hb d_WK_ofTwo_175 (lv_at hl 1 rfl) ?_
        refine va_calll (va_runSN (As := [.double r1]) (rest := [.ref (ad 12)]) ⟨hx, hb, hml, hown, hts⟩ (c_NF_rounded (D := D) (cs := cs) hi hq) (⟨va_cnB 1 hts (good_C wC_421) rfl rfl rfl (hN _ wN_517) (ht _ wC_44) (by decide +kernel) ⟨(show 0 + 1 ≤ fV + 1 by omega), (show 8 + (6 + 11) + 0 ≤ lV + 24 by omega)⟩, (ht _ wC_420), trivial⟩) ⟨cP_blind, fun U hU hW => ⟨rfl, by rw [hU]; exact hP, va_K.moved hW.alike hK, hN.warm hW⟩⟩ rfl rfl hl.1 rfl (lv_room (Nat.le_of_ble_eq_true rfl)) d_WK_ofTwo_177 ⟨Nat.le_of_ble_eq_true rfl, Nat.le_of_ble_eq_true rfl⟩) hS (fun q _ h => h) (fun q h => h) (fun r34 s35 t H locs ht0 hvm hq hB hz1 hk1 hS => ?_)
        obtain ⟨hP, -, -⟩ := hB
        rw [ht0] at hP
        refine lv_dload hx hb d_WK_ofTwo_180 (lv_at hl 0 rfl) ?_
        refine va_calll (va_runSN (As := [.double r6]) (rest := [.long r34, .ref (ad 12)]) ⟨hx, hb, hml, hown, hts⟩ (c_NF_rounded (D := D) (cs := cs) hi hq) (⟨va_cnB 1 hts (good_C wC_421) rfl rfl rfl (hN _ wN_517) (ht _ wC_44) (by decide +kernel) ⟨(show 0 + 1 ≤ fV + 1 by omega), (show 8 + (6 + 11) + 0 ≤ lV + 24 by omega)⟩, (ht _ wC_420), trivial⟩) ⟨cP_blind, fun U hU hW => ⟨rfl, by rw [hU]; exact hP, va_K.moved hW.alike hK, hN.warm hW⟩⟩ rfl rfl hl.1 rfl (lv_room (Nat.le_of_ble_eq_true rfl)) d_WK_ofTwo_182 ⟨Nat.le_of_ble_eq_true rfl, Nat.le_of_ble_eq_true rfl⟩) hS (fun q _ h => h) (fun q h => h) (fun r36 s37 t H locs ht0 hvm hq hB hz1 hk1 hS => ?_)
        obtain ⟨hP, -, -⟩ := hB
        rw [ht0] at hP
        refine va_calld (va_runV (As := [.long r34, .long r36]) (rest := []) ⟨hx, hb, hml, hown, hts⟩ (c_WK_quotient (D := D) (cs := cs) hi hq) (cwV 2 hts (good_V wC_567 wC_569 wC_22 wC_48 wC_570) rfl rfl rfl (by decide +kernel) ⟨(show 1 + 1 ≤ fV + 1 by omega), (show 8 + (5 + 11) + 21 ≤ lV + 24 by omega)⟩) ⟨cP_blind, va_recv hK hP (ci := 4) (q0 := 12) rfl (wd_at (by decide) rfl), fun U hU hW => ⟨rfl, by rw [hU]; exact hP, va_K.moved hW.alike hK, hN.warm hW⟩⟩ rfl rfl hl.1 rfl (lv_room (Nat.le_of_ble_eq_true rfl)) d_WK_ofTwo_185 ⟨Nat.le_of_ble_eq_true rfl, Nat.le_of_ble_eq_true rfl⟩) hS (fun q _ h => h) (fun q h => h) (fun r38 s39 t H locs ht0 hvm hq hB hz1 hk1 hS => ?_)
        obtain ⟨hP, -, -⟩ := hB
        rw [ht0] at hP
        exact W.dret hx hb hr (fun t ht hW => ⟨⟨r38, s39, rfl, hq, by rw [ht]; exact hP, va_K.moved hW.alike hK, hN.warm hW⟩, hS.F ht⟩) hS.2.2 d_WK_ofTwo_188
      have hq := hq.2 c33
      refine cw_tabD (tgt := 189) hx hb d_WK_ofTwo_65 (by decide) ?_ ?_
      · have e_c11 := lv_neT c11 (a := 2) rfl; have e_c18 := lv_neT c18 (a := 3) rfl; have e_c21 := lv_neT c21 (a := 4) rfl; have e_c24 := lv_neT c24 (a := 5) rfl; have e_c27 := lv_neT c27 (a := 6) rfl; have e_c33 := lv_neT c33 (a := 7) rfl
        have g3 : (gA s9 0 p1.toNatClampNeg).toInt < 2 ∨ 7 < (gA s9 0 p1.toNatClampNeg).toInt := by omega
        exact g3.elim Or.inl (fun g => Or.inr (Or.inl g))
      refine lv_dload hx hb d_WK_ofTwo_189 (lv_at hl 1 rfl) ?_
      refine lv_dload hx hb d_WK_ofTwo_191 (lv_at hl 0 rfl) ?_
      refine lv_dcmp hx hb d_WK_ofTwo_193 ?_
      refine lv_if_ge (tgt := 201) hx hb d_WK_ofTwo_194 (by decide) (fun c40 => ?_) (fun c40 => ?_)
      · have hq := hq.1 c40
        refine lv_dconst0 hx hb d_WK_ofTwo_201 ?_
        exact W.dret hx hb hr (fun t ht hW => ⟨⟨FP.dconst0, s9, rfl, hq, by rw [ht]; exact hP, va_K.moved hW.alike hK, hN.warm hW⟩, hS.F ht⟩) hS.2.2 d_WK_ofTwo_202
      · have hq := hq.2 c40
        refine lv_dconst1 hx hb d_WK_ofTwo_197 ?_
        refine lv_goto (tgt := 202) hx hb d_WK_ofTwo_198 (by decide) ?_
        exact W.dret hx hb hr (fun t ht hW => ⟨⟨FP.dconst1, s9, rfl, hq, by rw [ht]; exact hP, va_K.moved hW.alike hK, hN.warm hW⟩, hS.F ht⟩) hS.2.2 d_WK_ofTwo_202
    · have hq := hq.2 c10
      refine lv_dconst0 hx hb d_WK_ofTwo_54 ?_
      exact W.dret hx hb hr (fun t ht hW => ⟨⟨FP.dconst0, s9, rfl, hq, by rw [ht]; exact hP, va_K.moved hW.alike hK, hN.warm hW⟩, hS.F ht⟩) hS.2.2 d_WK_ofTwo_55
  · have hq := hq.2 c5
    refine lv_dconst0 hx hb d_WK_ofTwo_26 ?_
    exact W.dret hx hb hr (fun t ht hW => ⟨⟨FP.dconst0, s4, rfl, hq, by rw [ht]; exact hP, va_K.moved hW.alike hK, hN.warm hW⟩, hS.F ht⟩) hS.2.2 d_WK_ofTwo_27
def wp_WK_choice (V : VT) (p1 : Int32) (g2 : Nat) (p3 : Int32) (σ : CS) (Q : UInt64 → CS → Prop) : Prop := (g2 < 9 ∧ (vp_in p1 48 ∧ (V (gA σ 1 p1.toNatClampNeg) g2 (p3 + 1) σ (fun r1 s2 => (wp_WK_leaving  s2 (fun r3 s4 => ((r3 = 0 → (((Op.cmpValue (FP.dcmp r1 FP.dconst0) .l) = 0 → (vp_in p1 48 ∧ (V (gA s4 3 p1.toNatClampNeg) g2 (p3 + 1) s4 (fun r7 s8 => Q r7 s8)))) ∧ (¬ (Op.cmpValue (FP.dcmp r1 FP.dconst0) .l) = 0 → (vp_in p1 48 ∧ (V (gA s4 2 p1.toNatClampNeg) g2 (p3 + 1) s4 (fun r9 s10 => Q r9 s10)))))) ∧ (¬ r3 = 0 → Q FP.dconst0 s4))))))))
set_option maxHeartbeats 4000000 in
set_option maxRecDepth 100000 in
theorem c_WK_choice {l : Launch} {D : va_G} {cs : CI} {ad : Nat → Nat} (hi : aI ad 51) {V : VT} {fV lV : Nat} (hf : 5 ≤ fV) (hlo : 100 ≤ lV) (hV : ∀ {n : Int32} {h : Nat} {dp : Int32} {σ : CS} {Q : UInt64 → CS → Prop}, V n h dp σ Q → Met l y_WK_value (.code y_WK_value b_WK_value 5 (some .double) :: wC) ({ frames := fV, cells := 0, slots := 0, locals := lV }) (va_Pc [.ref (ad 12), .int n, .ref (ad (15 + h)), .int dp] (cP D cs ad σ)) (va_Qd Q (cP D cs ad) (aK ad 51)) 0 0 (aK ad 51)) {p1 : Int32} {g2 : Nat} {p3 : Int32} {σ : CS} {Q : UInt64 → CS → Prop} (hq : wp_WK_choice V p1 g2 p3 σ Q) : Met l y_WK_choice (.code y_WK_choice b_WK_choice 6 (some .double) :: wC) ({ frames := fV + 1, cells := 0, slots := 0, locals := lV + 24 }) (va_Pc [.ref (ad 12), .int p1, .ref (ad (15 + g2)), .int p3] (cP D cs ad σ)) (va_Qd Q (cP D cs ad) (aK ad 51)) 0 0 (aK ad 51) := by
  refine Met.ofW (cc := b_WK_choice) (maxL := 6) (ret := (some .double)) (by decide) rfl ?_
  intro p e s m args below meth c s₁ B hml hv
  obtain ⟨rfl, hP, hK, hN⟩ := hv
  have hx := B.exec
  have hb := B.bytes
  have hr := B.returns
  have hts := atoms_spec (ws := .code y_WK_choice b_WK_choice 6 (some .double) :: wC) B.pre
  have ht : ∀ w ∈ wC, w.before _ s = true := fun w h => hts w (List.mem_cons_of_mem _ h)
  have hown : s.vm.findClass R_WK = some m.cls := findClass_of_methodNamed B.named
  have hlocks := B.notSynchronized
  have hS : va_S (aK ad 51) s.heap s.heap [] := va_S.rf
  have hl := lv_entry ([.ref (ad 12), .int p1, .ref (ad (15 + g2)), .int p3]) (n := 6) (Nat.le_of_ble_eq_true rfl)
  rw [lg_entry_eq]
  generalize (lg_sl ([.ref (ad 12), .int p1, .ref (ad (15 + g2)), .int p3]) ++ List.replicate (6 - (lg_sl ([.ref (ad 12), .int p1, .ref (ad (15 + g2)), .int p3])).length) Slot.unset).toArray = ls at hl ⊢
  have hl : lv_has ls 6 [(0, .ref (ad 12)), (1, .int p1), (2, .ref (ad (15 + g2))), (3, .int p3)] := hl
  unfold wp_WK_choice at hq
  have hh_g2 : g2 < 9 := hq.1
  have hq := hq.2
  have hh8 : 8 < 9 := by decide
  refine lv_aload_n hx hb d_WK_choice_0 rfl (lv_at hl 0 rfl) ?_
  refine lv_aload_n hx hb d_WK_choice_1 rfl (lv_at hl 0 rfl) ?_
  refine cw_get (C := R_WK) (T := F_WK) (N := 13) (v := .ref (ad 1)) hx hb hts (in_WK _) hown hK hP 12 (by decide) rfl rfl 5 (by decide) (ht _ wC_192) rfl d_WK_choice_2 ?_
  refine cw_get (C := R_PR) (T := F_PR) (N := 8) (v := .ref (ad 3)) hx hb hts (in_PR _) hown hK hP 1 (by decide) rfl rfl 1 (by decide) (ht _ wC_82) rfl d_WK_choice_5 ?_
  refine lv_iload_n hx hb d_WK_choice_8 rfl (lv_at hl 1 rfl) ?_
  refine cw_iald hx hb hK hP 3 (by decide) rfl 0 rfl hq.1 d_WK_choice_9 ?_
  have hq := hq.2
  refine lv_aload_n hx hb d_WK_choice_10 rfl (lv_at hl 2 rfl) ?_
  refine lv_iload_n hx hb d_WK_choice_11 rfl (lv_at hl 3 rfl) ?_
  refine lv_iconst (v := 1) hx hb d_WK_choice_12 (by decide) ?_
  refine lv_iadd hx hb d_WK_choice_13 ?_
  refine va_calld (va_runV (As := [.int (gA σ 1 p1.toNatClampNeg), .ref (ad (15 + g2)), .int (p3 + 1)]) (rest := []) ⟨hx, hb, hml, hown, hts⟩ (hV hq) (cwV 3 hts (good_V wC_439 wC_441 wC_2 wC_48 wC_442) rfl rfl rfl (by decide +kernel) ⟨(show fV + 1 ≤ fV + 1 by omega), (show 8 + (5 + 11) + lV ≤ lV + 24 by omega)⟩) ⟨cP_blind, va_recv hK hP (ci := 4) (q0 := 12) rfl (wd_at (by decide) rfl), fun U hU hW => ⟨rfl, by rw [hU]; exact hP, va_K.moved hW.alike hK, hN.warm hW⟩⟩ rfl rfl hl.1 rfl (lv_room (Nat.le_of_ble_eq_true rfl)) d_WK_choice_14 ⟨Nat.le_of_ble_eq_true rfl, Nat.le_of_ble_eq_true rfl⟩) hS (fun q _ h => h) (fun q h => h) (fun r1 s2 t H locs ht0 hvm hq hB hz1 hk1 hS => ?_)
  obtain ⟨hP, -, -⟩ := hB
  rw [ht0] at hP
  refine lv_dstore (lv' := [(4, .double r1), (0, .ref (ad 12)), (1, .int p1), (2, .ref (ad (15 + g2))), (3, .int p3)]) hx hb d_WK_choice_17 hl (by decide) rfl (fun ls hl => ?_)
  refine lv_aload_n hx hb d_WK_choice_19 rfl (lv_at hl 1 rfl) ?_
  refine va_calli (va_runV (As := []) (rest := []) ⟨hx, hb, hml, hown, hts⟩ (c_WK_leaving (D := D) (cs := cs) hi hq) (cwV 0 hts (good_V wC_452 wC_454 wC_5 wC_48 wC_455) rfl rfl rfl (by decide +kernel) ⟨(show 0 + 1 ≤ fV + 1 by omega), (show 8 + (1 + 11) + 0 ≤ lV + 24 by omega)⟩) ⟨cP_blind, va_recv hK hP (ci := 4) (q0 := 12) rfl (wd_at (by decide) rfl), fun U hU hW => ⟨rfl, by rw [hU]; exact hP, va_K.moved hW.alike hK, hN.warm hW⟩⟩ rfl rfl hl.1 rfl (lv_room (Nat.le_of_ble_eq_true rfl)) d_WK_choice_20 ⟨Nat.le_of_ble_eq_true rfl, Nat.le_of_ble_eq_true rfl⟩) hS (fun q _ h => h) (fun q h => h) (fun r3 s4 t H locs ht0 hvm hq hB hz1 hk1 hS => ?_)
  obtain ⟨hP, -, -⟩ := hB
  rw [ht0] at hP
  refine lv_if_eq (tgt := 28) hx hb d_WK_choice_23 (by decide) (fun c5 => ?_) (fun c5 => ?_)
  · have hq := hq.1 c5
    refine lv_aload_n hx hb d_WK_choice_28 rfl (lv_at hl 1 rfl) ?_
    refine lv_dload hx hb d_WK_choice_29 (lv_at hl 0 rfl) ?_
    refine lv_dconst0 hx hb d_WK_choice_31 ?_
    refine lv_dcmp hx hb d_WK_choice_32 ?_
    refine lv_if_eq (tgt := 48) hx hb d_WK_choice_33 (by decide) (fun c6 => ?_) (fun c6 => ?_)
    · have hq := hq.1 c6
      refine lv_aload_n hx hb d_WK_choice_48 rfl (lv_at hl 1 rfl) ?_
      refine cw_get (C := R_WK) (T := F_WK) (N := 13) (v := .ref (ad 1)) hx hb hts (in_WK _) hown hK hP 12 (by decide) rfl rfl 5 (by decide) (ht _ wC_192) rfl d_WK_choice_49 ?_
      refine cw_get (C := R_PR) (T := F_PR) (N := 8) (v := .ref (ad 5)) hx hb hts (in_PR _) hown hK hP 1 (by decide) rfl rfl 3 (by decide) (ht _ wC_89) rfl d_WK_choice_52 ?_
      refine lv_iload_n hx hb d_WK_choice_55 rfl (lv_at hl 2 rfl) ?_
      refine cw_iald hx hb hK hP 5 (by decide) rfl 0 rfl hq.1 d_WK_choice_56 ?_
      have hq := hq.2
      refine lv_aload_n hx hb d_WK_choice_57 rfl (lv_at hl 3 rfl) ?_
      refine lv_iload_n hx hb d_WK_choice_58 rfl (lv_at hl 4 rfl) ?_
      refine lv_iconst (v := 1) hx hb d_WK_choice_59 (by decide) ?_
      refine lv_iadd hx hb d_WK_choice_60 ?_
      refine va_calld (va_runV (As := [.int (gA s4 3 p1.toNatClampNeg), .ref (ad (15 + g2)), .int (p3 + 1)]) (rest := []) ⟨hx, hb, hml, hown, hts⟩ (hV hq) (cwV 3 hts (good_V wC_439 wC_441 wC_2 wC_48 wC_442) rfl rfl rfl (by decide +kernel) ⟨(show fV + 1 ≤ fV + 1 by omega), (show 8 + (5 + 11) + lV ≤ lV + 24 by omega)⟩) ⟨cP_blind, va_recv hK hP (ci := 4) (q0 := 12) rfl (wd_at (by decide) rfl), fun U hU hW => ⟨rfl, by rw [hU]; exact hP, va_K.moved hW.alike hK, hN.warm hW⟩⟩ rfl rfl hl.1 rfl (lv_room (Nat.le_of_ble_eq_true rfl)) d_WK_choice_61 ⟨Nat.le_of_ble_eq_true rfl, Nat.le_of_ble_eq_true rfl⟩) hS (fun q _ h => h) (fun q h => h) (fun r7 s8 t H locs ht0 hvm hq hB hz1 hk1 hS => ?_)
      obtain ⟨hP, -, -⟩ := hB
      rw [ht0] at hP
      exact W.dret hx hb hr (fun t ht hW => ⟨⟨r7, s8, rfl, hq, by rw [ht]; exact hP, va_K.moved hW.alike hK, hN.warm hW⟩, hS.F ht⟩) hS.2.2 d_WK_choice_64
    · have hq := hq.2 c6
      refine lv_aload_n hx hb d_WK_choice_36 rfl (lv_at hl 1 rfl) ?_
      refine cw_get (C := R_WK) (T := F_WK) (N := 13) (v := .ref (ad 1)) hx hb hts (in_WK _) hown hK hP 12 (by decide) rfl rfl 5 (by decide) (ht _ wC_192) rfl d_WK_choice_37 ?_
      refine cw_get (C := R_PR) (T := F_PR) (N := 8) (v := .ref (ad 4)) hx hb hts (in_PR _) hown hK hP 1 (by decide) rfl rfl 2 (by decide) (ht _ wC_85) rfl d_WK_choice_40 ?_
      refine lv_iload_n hx hb d_WK_choice_43 rfl (lv_at hl 2 rfl) ?_
      refine cw_iald hx hb hK hP 4 (by decide) rfl 0 rfl hq.1 d_WK_choice_44 ?_
      have hq := hq.2
      refine lv_goto (tgt := 57) hx hb d_WK_choice_45 (by decide) ?_
      refine lv_aload_n hx hb d_WK_choice_57 rfl (lv_at hl 3 rfl) ?_
      refine lv_iload_n hx hb d_WK_choice_58 rfl (lv_at hl 4 rfl) ?_
      refine lv_iconst (v := 1) hx hb d_WK_choice_59 (by decide) ?_
      refine lv_iadd hx hb d_WK_choice_60 ?_
      refine va_calld (va_runV (As := [.int (gA s4 2 p1.toNatClampNeg), .ref (ad (15 + g2)), .int (p3 + 1)]) (rest := []) ⟨hx, hb, hml, hown, hts⟩ (hV hq) (cwV 3 hts (good_V wC_439 wC_441 wC_2 wC_48 wC_442) rfl rfl rfl (by decide +kernel) ⟨(show fV + 1 ≤ fV + 1 by omega), (show 8 + (5 + 11) + lV ≤ lV + 24 by omega)⟩) ⟨cP_blind, va_recv hK hP (ci := 4) (q0 := 12) rfl (wd_at (by decide) rfl), fun U hU hW => ⟨rfl, by rw [hU]; exact hP, va_K.moved hW.alike hK, hN.warm hW⟩⟩ rfl rfl hl.1 rfl (lv_room (Nat.le_of_ble_eq_true rfl)) d_WK_choice_61 ⟨Nat.le_of_ble_eq_true rfl, Nat.le_of_ble_eq_true rfl⟩) hS (fun q _ h => h) (fun q h => h) (fun r9 s10 t H locs ht0 hvm hq hB hz1 hk1 hS => ?_)
      obtain ⟨hP, -, -⟩ := hB
      rw [ht0] at hP
      exact W.dret hx hb hr (fun t ht hW => ⟨⟨r9, s10, rfl, hq, by rw [ht]; exact hP, va_K.moved hW.alike hK, hN.warm hW⟩, hS.F ht⟩) hS.2.2 d_WK_choice_64
  · have hq := hq.2 c5
    refine lv_dconst0 hx hb d_WK_choice_26 ?_
    exact W.dret hx hb hr (fun t ht hW => ⟨⟨FP.dconst0, s4, rfl, hq, by rw [ht]; exact hP, va_K.moved hW.alike hK, hN.warm hW⟩, hS.F ht⟩) hS.2.2 d_WK_choice_27
def wp_WK_parameter (V : VT) (p1 : Int32) (g2 : Nat) (p3 : Int32) (σ : CS) (Q : UInt64 → CS → Prop) : Prop := (g2 < 9 ∧ (wp_EN_hasParameter g2 p1 σ (fun r1 s2 => ((r1 = 0 → (wp_WK_fail 4 s2 (fun r15 s16 => Q r15 s16))) ∧ (¬ r1 = 0 → (wp_EN_isByName g2 p1 s2 (fun r4 s5 => ((r4 = 0 → (vp_in p1 2 ∧ Q (gD s5 (10 + g2) p1.toNatClampNeg) s5)) ∧ (¬ r4 = 0 → (wp_WK_mayEnter  s5 (fun r7 s8 => ((r7 = 0 → Q FP.dconst0 s8) ∧ (¬ r7 = 0 → (vp_in p1 2 ∧ (∃ k10 : Nat, gC s8 g2 = some k10 ∧ (V (gA s8 (10 + g2) p1.toNatClampNeg) k10 (p3 + 1) s8 (fun r12 s13 => (∀ s14 : CS, s14 = sI s13 6 ((gI s13 6) - 1) → Q r12 s14))))))))))))))))))
set_option maxHeartbeats 4000000 in
set_option maxRecDepth 100000 in
theorem c_WK_parameter {l : Launch} {D : va_G} {cs : CI} {ad : Nat → Nat} (hi : aI ad 51) {V : VT} {fV lV : Nat} (hf : 5 ≤ fV) (hlo : 100 ≤ lV) (hV : ∀ {n : Int32} {h : Nat} {dp : Int32} {σ : CS} {Q : UInt64 → CS → Prop}, V n h dp σ Q → Met l y_WK_value (.code y_WK_value b_WK_value 5 (some .double) :: wC) ({ frames := fV, cells := 0, slots := 0, locals := lV }) (va_Pc [.ref (ad 12), .int n, .ref (ad (15 + h)), .int dp] (cP D cs ad σ)) (va_Qd Q (cP D cs ad) (aK ad 51)) 0 0 (aK ad 51)) {p1 : Int32} {g2 : Nat} {p3 : Int32} {σ : CS} {Q : UInt64 → CS → Prop} (hq : wp_WK_parameter V p1 g2 p3 σ Q) : Met l y_WK_parameter (.code y_WK_parameter b_WK_parameter 6 (some .double) :: wC) ({ frames := fV + 1, cells := 0, slots := 0, locals := lV + 24 }) (va_Pc [.ref (ad 12), .int p1, .ref (ad (15 + g2)), .int p3] (cP D cs ad σ)) (va_Qd Q (cP D cs ad) (aK ad 51)) 0 0 (aK ad 51) := by
  refine Met.ofW (cc := b_WK_parameter) (maxL := 6) (ret := (some .double)) (by decide) rfl ?_
  intro p e s m args below meth c s₁ B hml hv
  obtain ⟨rfl, hP, hK, hN⟩ := hv
  have hx := B.exec
  have hb := B.bytes
  have hr := B.returns
  have hts := atoms_spec (ws := .code y_WK_parameter b_WK_parameter 6 (some .double) :: wC) B.pre
  have ht : ∀ w ∈ wC, w.before _ s = true := fun w h => hts w (List.mem_cons_of_mem _ h)
  have hown : s.vm.findClass R_WK = some m.cls := findClass_of_methodNamed B.named
  have hlocks := B.notSynchronized
  have hS : va_S (aK ad 51) s.heap s.heap [] := va_S.rf
  have hl := lv_entry ([.ref (ad 12), .int p1, .ref (ad (15 + g2)), .int p3]) (n := 6) (Nat.le_of_ble_eq_true rfl)
  rw [lg_entry_eq]
  generalize (lg_sl ([.ref (ad 12), .int p1, .ref (ad (15 + g2)), .int p3]) ++ List.replicate (6 - (lg_sl ([.ref (ad 12), .int p1, .ref (ad (15 + g2)), .int p3])).length) Slot.unset).toArray = ls at hl ⊢
  have hl : lv_has ls 6 [(0, .ref (ad 12)), (1, .int p1), (2, .ref (ad (15 + g2))), (3, .int p3)] := hl
  unfold wp_WK_parameter at hq
  have hh_g2 : g2 < 9 := hq.1
  have hq := hq.2
  have hh8 : 8 < 9 := by decide
  refine lv_aload_n hx hb d_WK_parameter_0 rfl (lv_at hl 2 rfl) ?_
  refine lv_iload_n hx hb d_WK_parameter_1 rfl (lv_at hl 1 rfl) ?_
  refine va_calli (va_runV (As := [.int p1]) (rest := []) ⟨hx, hb, hml, hown, hts⟩ (c_EN_hasParameter (D := D) (cs := cs) hi hq) (cwV 1 hts (good_V wC_460 wC_461 wC_462 wC_49 wC_463) rfl rfl rfl (by decide +kernel) ⟨(show 0 + 1 ≤ fV + 1 by omega), (show 8 + (2 + 11) + 0 ≤ lV + 24 by omega)⟩) ⟨cP_blind, va_recv hK hP (ci := 1) (q0 := (15 + g2)) rfl (wd_at (by omega) (ct_o hh_g2)), fun U hU hW => ⟨rfl, by rw [hU]; exact hP, va_K.moved hW.alike hK, hN.warm hW⟩⟩ rfl rfl hl.1 rfl (lv_room (Nat.le_of_ble_eq_true rfl)) d_WK_parameter_2 ⟨Nat.le_of_ble_eq_true rfl, Nat.le_of_ble_eq_true rfl⟩) hS (fun q _ h => h) (fun q h => h) (fun r1 s2 t H locs ht0 hvm hq hB hz1 hk1 hS => ?_)
  obtain ⟨hP, -, -⟩ := hB
  rw [ht0] at hP
  refine lv_if_ne (tgt := 14) hx hb d_WK_parameter_5 (by decide) (fun c3 => ?_) (fun c3 => ?_)
  · have hq := hq.2 c3
    refine lv_aload_n hx hb d_WK_parameter_14 rfl (lv_at hl 2 rfl) ?_
    refine lv_iload_n hx hb d_WK_parameter_15 rfl (lv_at hl 1 rfl) ?_
    refine va_calli (va_runV (As := [.int p1]) (rest := []) ⟨hx, hb, hml, hown, hts⟩ (c_EN_isByName (D := D) (cs := cs) hi hq) (cwV 1 hts (good_V wC_468 wC_469 wC_470 wC_49 wC_471) rfl rfl rfl (by decide +kernel) ⟨(show 0 + 1 ≤ fV + 1 by omega), (show 8 + (2 + 11) + 0 ≤ lV + 24 by omega)⟩) ⟨cP_blind, va_recv hK hP (ci := 1) (q0 := (15 + g2)) rfl (wd_at (by omega) (ct_o hh_g2)), fun U hU hW => ⟨rfl, by rw [hU]; exact hP, va_K.moved hW.alike hK, hN.warm hW⟩⟩ rfl rfl hl.1 rfl (lv_room (Nat.le_of_ble_eq_true rfl)) d_WK_parameter_16 ⟨Nat.le_of_ble_eq_true rfl, Nat.le_of_ble_eq_true rfl⟩) hS (fun q _ h => h) (fun q h => h) (fun r4 s5 t H locs ht0 hvm hq hB hz1 hk1 hS => ?_)
    obtain ⟨hP, -, -⟩ := hB
    rw [ht0] at hP
    refine lv_if_ne (tgt := 29) hx hb d_WK_parameter_19 (by decide) (fun c6 => ?_) (fun c6 => ?_)
    · have hq := hq.2 c6
      refine lv_aload_n hx hb d_WK_parameter_29 rfl (lv_at hl 0 rfl) ?_
      refine va_calli (va_runV (As := []) (rest := []) ⟨hx, hb, hml, hown, hts⟩ (c_WK_mayEnter (D := D) (cs := cs) hi hq) (cwV 0 hts (good_V wC_472 wC_474 wC_8 wC_48 wC_475) rfl rfl rfl (by decide +kernel) ⟨(show 1 + 1 ≤ fV + 1 by omega), (show 8 + (1 + 11) + 32 ≤ lV + 24 by omega)⟩) ⟨cP_blind, va_recv hK hP (ci := 4) (q0 := 12) rfl (wd_at (by decide) rfl), fun U hU hW => ⟨rfl, by rw [hU]; exact hP, va_K.moved hW.alike hK, hN.warm hW⟩⟩ rfl rfl hl.1 rfl (lv_room (Nat.le_of_ble_eq_true rfl)) d_WK_parameter_30 ⟨Nat.le_of_ble_eq_true rfl, Nat.le_of_ble_eq_true rfl⟩) hS (fun q _ h => h) (fun q h => h) (fun r7 s8 t H locs ht0 hvm hq hB hz1 hk1 hS => ?_)
      obtain ⟨hP, -, -⟩ := hB
      rw [ht0] at hP
      refine lv_if_ne (tgt := 38) hx hb d_WK_parameter_33 (by decide) (fun c9 => ?_) (fun c9 => ?_)
      · have hq := hq.2 c9
        refine lv_aload_n hx hb d_WK_parameter_38 rfl (lv_at hl 0 rfl) ?_
        refine lv_aload_n hx hb d_WK_parameter_39 rfl (lv_at hl 2 rfl) ?_
        refine cw_get (C := R_EN) (T := F_EN) (N := 6) (v := .ref (ad (24 + g2))) hx hb hts (in_EN _) hown hK hP (15 + g2) (by omega) (ct_o hh_g2) rfl 1 (by decide) (ht _ wC_161) rfl d_WK_parameter_40 ?_
        refine lv_iload_n hx hb d_WK_parameter_43 rfl (lv_at hl 1 rfl) ?_
        refine cw_iald hx hb hK hP (24 + g2) (by omega) (ct_g hh_g2) 0 rfl hq.1 d_WK_parameter_44 ?_
        have hq := hq.2
        refine lv_aload_n hx hb d_WK_parameter_45 rfl (lv_at hl 2 rfl) ?_
        refine cw_get (C := R_EN) (T := F_EN) (N := 6) (v := cv ad (gC s8 g2)) hx hb hts (in_EN _) hown hK hP (15 + g2) (by omega) (ct_o hh_g2) rfl 0 (by decide) (ht _ wC_159) rfl d_WK_parameter_46 ?_
        obtain ⟨k10, e11, hq⟩ := hq
        rw [e11, cv_some]
        refine lv_iload_n hx hb d_WK_parameter_49 rfl (lv_at hl 3 rfl) ?_
        refine lv_iconst (v := 1) hx hb d_WK_parameter_50 (by decide) ?_
        refine lv_iadd hx hb d_WK_parameter_51 ?_
        refine va_calld (va_runV (As := [.int (gA s8 (10 + g2) p1.toNatClampNeg), .ref (ad (15 + k10)), .int (p3 + 1)]) (rest := []) ⟨hx, hb, hml, hown, hts⟩ (hV hq) (cwV 3 hts (good_V wC_439 wC_441 wC_2 wC_48 wC_442) rfl rfl rfl (by decide +kernel) ⟨(show fV + 1 ≤ fV + 1 by omega), (show 8 + (5 + 11) + lV ≤ lV + 24 by omega)⟩) ⟨cP_blind, va_recv hK hP (ci := 4) (q0 := 12) rfl (wd_at (by decide) rfl), fun U hU hW => ⟨rfl, by rw [hU]; exact hP, va_K.moved hW.alike hK, hN.warm hW⟩⟩ rfl rfl hl.1 rfl (lv_room (Nat.le_of_ble_eq_true rfl)) d_WK_parameter_52 ⟨Nat.le_of_ble_eq_true rfl, Nat.le_of_ble_eq_true rfl⟩) hS (fun q _ h => h) (fun q h => h) (fun r12 s13 t H locs ht0 hvm hq hB hz1 hk1 hS => ?_)
        obtain ⟨hP, -, -⟩ := hB
        rw [ht0] at hP
        refine lv_dstore (lv' := [(4, .double r12), (0, .ref (ad 12)), (1, .int p1), (2, .ref (ad (15 + g2))), (3, .int p3)]) hx hb d_WK_parameter_55 hl (by decide) rfl (fun ls hl => ?_)
        refine lv_aload_n hx hb d_WK_parameter_57 rfl (lv_at hl 1 rfl) ?_
        refine lv_dup hx hb d_WK_parameter_58 rfl ?_
        refine cw_get (C := R_WK) (T := F_WK) (N := 13) (v := .int (gI s13 6)) hx hb hts (in_WK _) hown hK hP 12 (by decide) rfl rfl 11 (by decide) (ht _ wC_198) rfl d_WK_parameter_59 ?_
        refine lv_iconst (v := 1) hx hb d_WK_parameter_62 (by decide) ?_
        refine lv_isub hx hb d_WK_parameter_63 ?_
        refine cw_put (C := R_WK) (T := F_WK) (N := 13) (ty := .int) (v := .int ((gI s13 6) - 1)) hx hb hts (in_WK _) t_WK tok_WK n_WK hown hK hP hi hS 12 (by decide) rfl rfl 11 (by decide) (ht _ wC_198) rfl (by decide +kernel) rfl rfl (Nat.le_of_ble_eq_true rfl) up_WK_openEnvironments d_WK_parameter_64 (fun H locs hP hS => ?_)
        obtain ⟨s14, e_s14⟩ : ∃ z, z = sI s13 6 ((gI s13 6) - 1) := ⟨_, rfl⟩
        rw [← e_s14] at hP
        have hq := hq s14 e_s14
        refine lv_dload hx hb d_WK_parameter_67 (lv_at hl 0 rfl) ?_
        exact W.dret hx hb hr (fun t ht hW => ⟨⟨r12, s14, rfl, hq, by rw [ht]; exact hP, va_K.moved hW.alike hK, hN.warm hW⟩, hS.F ht⟩) hS.2.2 d_WK_parameter_69
      · have hq := hq.1 c9
        refine lv_dconst0 hx hb d_WK_parameter_36 ?_
        exact W.dret hx hb hr (fun t ht hW => ⟨⟨FP.dconst0, s8, rfl, hq, by rw [ht]; exact hP, va_K.moved hW.alike hK, hN.warm hW⟩, hS.F ht⟩) hS.2.2 d_WK_parameter_37
    · have hq := hq.1 c6
      refine lv_aload_n hx hb d_WK_parameter_22 rfl (lv_at hl 2 rfl) ?_
      refine cw_get (C := R_EN) (T := F_EN) (N := 6) (v := .ref (ad (33 + g2))) hx hb hts (in_EN _) hown hK hP (15 + g2) (by omega) (ct_o hh_g2) rfl 2 (by decide) (ht _ wC_163) rfl d_WK_parameter_23 ?_
      refine lv_iload_n hx hb d_WK_parameter_26 rfl (lv_at hl 1 rfl) ?_
      refine cw_dald hx hb hK hP (33 + g2) (by omega) (ct_v hh_g2) 1 rfl hq.1 d_WK_parameter_27 ?_
      have hq := hq.2
      exact W.dret hx hb hr (fun t ht hW => ⟨⟨(gD s5 (10 + g2) p1.toNatClampNeg), s5, rfl, hq, by rw [ht]; exact hP, va_K.moved hW.alike hK, hN.warm hW⟩, hS.F ht⟩) hS.2.2 d_WK_parameter_28
  · have hq := hq.1 c3
    refine lv_aload_n hx hb d_WK_parameter_8 rfl (lv_at hl 0 rfl) ?_
    refine lv_iconst (v := 4) hx hb d_WK_parameter_9 (by decide) ?_
    refine va_calld (va_runV (As := [.int 4]) (rest := []) ⟨hx, hb, hml, hown, hts⟩ (c_WK_fail (D := D) (cs := cs) hi hq) (cwV 1 hts (good_V wC_464 wC_466 wC_7 wC_48 wC_467) rfl rfl rfl (by decide +kernel) ⟨(show 0 + 1 ≤ fV + 1 by omega), (show 8 + (2 + 11) + 0 ≤ lV + 24 by omega)⟩) ⟨cP_blind, va_recv hK hP (ci := 4) (q0 := 12) rfl (wd_at (by decide) rfl), fun U hU hW => ⟨rfl, by rw [hU]; exact hP, va_K.moved hW.alike hK, hN.warm hW⟩⟩ rfl rfl hl.1 rfl (lv_room (Nat.le_of_ble_eq_true rfl)) d_WK_parameter_10 ⟨Nat.le_of_ble_eq_true rfl, Nat.le_of_ble_eq_true rfl⟩) hS (fun q _ h => h) (fun q h => h) (fun r15 s16 t H locs ht0 hvm hq hB hz1 hk1 hS => ?_)
    obtain ⟨hP, -, -⟩ := hB
    rw [ht0] at hP
    exact W.dret hx hb hr (fun t ht hW => ⟨⟨r15, s16, rfl, hq, by rw [ht]; exact hP, va_K.moved hW.alike hK, hN.warm hW⟩, hS.F ht⟩) hS.2.2 d_WK_parameter_13
def wp_WK_call (V : VT) (p1 : Int32) (g2 : Nat) (p3 : Int32) (σ : CS) (Q : UInt64 → CS → Prop) : Prop := (g2 < 9 ∧ (wp_PR_canBeCalled p1 σ (fun r1 s2 => ((r1 = 0 → (wp_WK_fail 4 s2 (fun r101 s102 => Q r101 s102))) ∧ (¬ r1 = 0 → (vp_in p1 48 ∧ (wp_PR_isByValue (gA s2 1 p1.toNatClampNeg) 0 s2 (fun r4 s5 => ((r4 = 0 → (wp_WK_leaving  s5 (fun r7 s8 => ((r7 = 0 → (wp_PR_isByValue (gA s2 1 p1.toNatClampNeg) 1 s8 (fun r10 s11 => ((r10 = 0 → (wp_WK_leaving  s11 (fun r13 s14 => ((r13 = 0 → (wp_WK_mayEnter  s14 (fun r16 s17 => ((r16 = 0 → Q FP.dconst0 s17) ∧ (¬ r16 = 0 → (vp_in (gI s17 5) 8 ∧ (vp_in (gA s2 1 p1.toNatClampNeg) 4 ∧ (vp_in (gA s2 1 p1.toNatClampNeg) 4 ∧ (wp_EN_begin ((gI s17 5).toNatClampNeg) g2 (gA s17 5 ((gA s2 1 p1.toNatClampNeg).toNatClampNeg)) (gA s17 6 ((gA s2 1 p1.toNatClampNeg).toNatClampNeg)) s17 (fun s21 => (vp_in p1 48 ∧ (wp_EN_give ((gI s17 5).toNatClampNeg) 0 (gA s21 2 p1.toNatClampNeg) FP.dconst0 s21 (fun s23 => (vp_in p1 48 ∧ (wp_EN_give ((gI s17 5).toNatClampNeg) 1 (gA s23 3 p1.toNatClampNeg) FP.dconst0 s23 (fun s25 => (∀ s26 : CS, s26 = sI s25 5 ((gI s25 5) + 1) → (∀ s27 : CS, s27 = sI s26 2 ((gI s26 2) + 1) → (vp_in (gA s2 1 p1.toNatClampNeg) 4 ∧ (V (gA s27 4 ((gA s2 1 p1.toNatClampNeg).toNatClampNeg)) ((gI s17 5).toNatClampNeg) (p3 + 1) s27 (fun r28 s29 => (∀ s30 : CS, s30 = sI s29 5 ((gI s29 5) - 1) → (∀ s31 : CS, s31 = sI s30 6 ((gI s30 6) - 1) → Q r28 s31))))))))))))))))))))))) ∧ (¬ r13 = 0 → Q FP.dconst0 s14))))) ∧ (¬ r10 = 0 → (vp_in p1 48 ∧ (V (gA s11 3 p1.toNatClampNeg) g2 (p3 + 1) s11 (fun r32 s33 => (wp_WK_leaving  s33 (fun r34 s35 => ((r34 = 0 → (wp_WK_mayEnter  s35 (fun r37 s38 => ((r37 = 0 → Q FP.dconst0 s38) ∧ (¬ r37 = 0 → (vp_in (gI s38 5) 8 ∧ (vp_in (gA s2 1 p1.toNatClampNeg) 4 ∧ (vp_in (gA s2 1 p1.toNatClampNeg) 4 ∧ (wp_EN_begin ((gI s38 5).toNatClampNeg) g2 (gA s38 5 ((gA s2 1 p1.toNatClampNeg).toNatClampNeg)) (gA s38 6 ((gA s2 1 p1.toNatClampNeg).toNatClampNeg)) s38 (fun s42 => (vp_in p1 48 ∧ (wp_EN_give ((gI s38 5).toNatClampNeg) 0 (gA s42 2 p1.toNatClampNeg) FP.dconst0 s42 (fun s44 => (vp_in p1 48 ∧ (wp_EN_give ((gI s38 5).toNatClampNeg) 1 (gA s44 3 p1.toNatClampNeg) r32 s44 (fun s46 => (∀ s47 : CS, s47 = sI s46 5 ((gI s46 5) + 1) → (∀ s48 : CS, s48 = sI s47 2 ((gI s47 2) + 1) → (vp_in (gA s2 1 p1.toNatClampNeg) 4 ∧ (V (gA s48 4 ((gA s2 1 p1.toNatClampNeg).toNatClampNeg)) ((gI s38 5).toNatClampNeg) (p3 + 1) s48 (fun r49 s50 => (∀ s51 : CS, s51 = sI s50 5 ((gI s50 5) - 1) → (∀ s52 : CS, s52 = sI s51 6 ((gI s51 6) - 1) → Q r49 s52))))))))))))))))))))))) ∧ (¬ r34 = 0 → Q FP.dconst0 s35)))))))))))) ∧ (¬ r7 = 0 → Q FP.dconst0 s8))))) ∧ (¬ r4 = 0 → (vp_in p1 48 ∧ (V (gA s5 2 p1.toNatClampNeg) g2 (p3 + 1) s5 (fun r53 s54 => (wp_WK_leaving  s54 (fun r55 s56 => ((r55 = 0 → (wp_PR_isByValue (gA s2 1 p1.toNatClampNeg) 1 s56 (fun r58 s59 => ((r58 = 0 → (wp_WK_leaving  s59 (fun r61 s62 => ((r61 = 0 → (wp_WK_mayEnter  s62 (fun r64 s65 => ((r64 = 0 → Q FP.dconst0 s65) ∧ (¬ r64 = 0 → (vp_in (gI s65 5) 8 ∧ (vp_in (gA s2 1 p1.toNatClampNeg) 4 ∧ (vp_in (gA s2 1 p1.toNatClampNeg) 4 ∧ (wp_EN_begin ((gI s65 5).toNatClampNeg) g2 (gA s65 5 ((gA s2 1 p1.toNatClampNeg).toNatClampNeg)) (gA s65 6 ((gA s2 1 p1.toNatClampNeg).toNatClampNeg)) s65 (fun s69 => (vp_in p1 48 ∧ (wp_EN_give ((gI s65 5).toNatClampNeg) 0 (gA s69 2 p1.toNatClampNeg) r53 s69 (fun s71 => (vp_in p1 48 ∧ (wp_EN_give ((gI s65 5).toNatClampNeg) 1 (gA s71 3 p1.toNatClampNeg) FP.dconst0 s71 (fun s73 => (∀ s74 : CS, s74 = sI s73 5 ((gI s73 5) + 1) → (∀ s75 : CS, s75 = sI s74 2 ((gI s74 2) + 1) → (vp_in (gA s2 1 p1.toNatClampNeg) 4 ∧ (V (gA s75 4 ((gA s2 1 p1.toNatClampNeg).toNatClampNeg)) ((gI s65 5).toNatClampNeg) (p3 + 1) s75 (fun r76 s77 => (∀ s78 : CS, s78 = sI s77 5 ((gI s77 5) - 1) → (∀ s79 : CS, s79 = sI s78 6 ((gI s78 6) - 1) → Q r76 s79))))))))))))))))))))))) ∧ (¬ r61 = 0 → Q FP.dconst0 s62))))) ∧ (¬ r58 = 0 → (vp_in p1 48 ∧ (V (gA s59 3 p1.toNatClampNeg) g2 (p3 + 1) s59 (fun r80 s81 => (wp_WK_leaving  s81 (fun r82 s83 => ((r82 = 0 → (wp_WK_mayEnter  s83 (fun r85 s86 => ((r85 = 0 → Q FP.dconst0 s86) ∧ (¬ r85 = 0 → (vp_in (gI s86 5) 8 ∧ (vp_in (gA s2 1 p1.toNatClampNeg) 4 ∧ (vp_in (gA s2 1 p1.toNatClampNeg) 4 ∧ (wp_EN_begin ((gI s86 5).toNatClampNeg) g2 (gA s86 5 ((gA s2 1 p1.toNatClampNeg).toNatClampNeg)) (gA s86 6 ((gA s2 1 p1.toNatClampNeg).toNatClampNeg)) s86 (fun s90 => (vp_in p1 48 ∧ (wp_EN_give ((gI s86 5).toNatClampNeg) 0 (gA s90 2 p1.toNatClampNeg) r53 s90 (fun s92 => (vp_in p1 48 ∧ (wp_EN_give ((gI s86 5).toNatClampNeg) 1 (gA s92 3 p1.toNatClampNeg) r80 s92 (fun s94 => (∀ s95 : CS, s95 = sI s94 5 ((gI s94 5) + 1) → (∀ s96 : CS, s96 = sI s95 2 ((gI s95 2) + 1) → (vp_in (gA s2 1 p1.toNatClampNeg) 4 ∧ (V (gA s96 4 ((gA s2 1 p1.toNatClampNeg).toNatClampNeg)) ((gI s86 5).toNatClampNeg) (p3 + 1) s96 (fun r97 s98 => (∀ s99 : CS, s99 = sI s98 5 ((gI s98 5) - 1) → (∀ s100 : CS, s100 = sI s99 6 ((gI s99 6) - 1) → Q r97 s100))))))))))))))))))))))) ∧ (¬ r82 = 0 → Q FP.dconst0 s83)))))))))))) ∧ (¬ r55 = 0 → Q FP.dconst0 s56)))))))))))))))))
set_option maxHeartbeats 4000000 in
set_option maxRecDepth 100000 in
theorem c_WK_call {l : Launch} {D : va_G} {cs : CI} {ad : Nat → Nat} (hi : aI ad 51) {V : VT} {fV lV : Nat} (hf : 5 ≤ fV) (hlo : 100 ≤ lV) (hV : ∀ {n : Int32} {h : Nat} {dp : Int32} {σ : CS} {Q : UInt64 → CS → Prop}, V n h dp σ Q → Met l y_WK_value (.code y_WK_value b_WK_value 5 (some .double) :: wC) ({ frames := fV, cells := 0, slots := 0, locals := lV }) (va_Pc [.ref (ad 12), .int n, .ref (ad (15 + h)), .int dp] (cP D cs ad σ)) (va_Qd Q (cP D cs ad) (aK ad 51)) 0 0 (aK ad 51)) {p1 : Int32} {g2 : Nat} {p3 : Int32} {σ : CS} {Q : UInt64 → CS → Prop} (hq : wp_WK_call V p1 g2 p3 σ Q) : Met l y_WK_call (.code y_WK_call b_WK_call 12 (some .double) :: wC) ({ frames := fV + 1, cells := 0, slots := 0, locals := lV + 24 }) (va_Pc [.ref (ad 12), .int p1, .ref (ad (15 + g2)), .int p3] (cP D cs ad σ)) (va_Qd Q (cP D cs ad) (aK ad 51)) 0 0 (aK ad 51) := by
  refine Met.ofW (cc := b_WK_call) (maxL := 12) (ret := (some .double)) (by decide) rfl ?_
  intro p e s m args below meth c s₁ B hml hv
  obtain ⟨rfl, hP, hK, hN⟩ := hv
  have hx := B.exec
  have hb := B.bytes
  have hr := B.returns
  have hts := atoms_spec (ws := .code y_WK_call b_WK_call 12 (some .double) :: wC) B.pre
  have ht : ∀ w ∈ wC, w.before _ s = true := fun w h => hts w (List.mem_cons_of_mem _ h)
  have hown : s.vm.findClass R_WK = some m.cls := findClass_of_methodNamed B.named
  have hlocks := B.notSynchronized
  have hS : va_S (aK ad 51) s.heap s.heap [] := va_S.rf
  have hl := lv_entry ([.ref (ad 12), .int p1, .ref (ad (15 + g2)), .int p3]) (n := 12) (Nat.le_of_ble_eq_true rfl)
  rw [lg_entry_eq]
  generalize (lg_sl ([.ref (ad 12), .int p1, .ref (ad (15 + g2)), .int p3]) ++ List.replicate (12 - (lg_sl ([.ref (ad 12), .int p1, .ref (ad (15 + g2)), .int p3])).length) Slot.unset).toArray = ls at hl ⊢
  have hl : lv_has ls 12 [(0, .ref (ad 12)), (1, .int p1), (2, .ref (ad (15 + g2))), (3, .int p3)] := hl
  unfold wp_WK_call at hq
  have hh_g2 : g2 < 9 := hq.1
  have hq := hq.2
  have hh8 : 8 < 9 := by decide
  refine lv_aload_n hx hb d_WK_call_0 rfl (lv_at hl 0 rfl) ?_
  refine cw_get (C := R_WK) (T := F_WK) (N := 13) (v := .ref (ad 1)) hx hb hts (in_WK _) hown hK hP 12 (by decide) rfl rfl 5 (by decide) (ht _ wC_192) rfl d_WK_call_1 ?_
  refine lv_iload_n hx hb d_WK_call_4 rfl (lv_at hl 1 rfl) ?_
  refine va_calli (va_runV (As := [.int p1]) (rest := []) ⟨hx, hb, hml, hown, hts⟩ (c_PR_canBeCalled (D := D) (cs := cs) hi hq) (cwV 1 hts (good_V wC_487 wC_488 wC_489 wC_45 wC_490) rfl rfl rfl (by decide +kernel) ⟨(show 0 + 1 ≤ fV + 1 by omega), (show 8 + (3 + 11) + 0 ≤ lV + 24 by omega)⟩) ⟨cP_blind, va_recv hK hP (ci := 2) (q0 := 1) rfl (wd_at (by decide) rfl), fun U hU hW => ⟨rfl, by rw [hU]; exact hP, va_K.moved hW.alike hK, hN.warm hW⟩⟩ rfl rfl hl.1 rfl (lv_room (Nat.le_of_ble_eq_true rfl)) d_WK_call_5 ⟨Nat.le_of_ble_eq_true rfl, Nat.le_of_ble_eq_true rfl⟩) hS (fun q _ h => h) (fun q h => h) (fun r1 s2 t H locs ht0 hvm hq hB hz1 hk1 hS => ?_)
  obtain ⟨hP, -, -⟩ := hB
  rw [ht0] at hP
  refine lv_if_ne (tgt := 17) hx hb d_WK_call_8 (by decide) (fun c3 => ?_) (fun c3 => ?_)
  · have hq := hq.2 c3
    refine lv_aload_n hx hb d_WK_call_17 rfl (lv_at hl 0 rfl) ?_
    refine cw_get (C := R_WK) (T := F_WK) (N := 13) (v := .ref (ad 1)) hx hb hts (in_WK _) hown hK hP 12 (by decide) rfl rfl 5 (by decide) (ht _ wC_192) rfl d_WK_call_18 ?_
    refine cw_get (C := R_PR) (T := F_PR) (N := 8) (v := .ref (ad 3)) hx hb hts (in_PR _) hown hK hP 1 (by decide) rfl rfl 1 (by decide) (ht _ wC_82) rfl d_WK_call_21 ?_
    refine lv_iload_n hx hb d_WK_call_24 rfl (lv_at hl 1 rfl) ?_
    refine cw_iald hx hb hK hP 3 (by decide) rfl 0 rfl hq.1 d_WK_call_25 ?_
    have hq := hq.2
    refine lv_istore (lv' := [(4, .int (gA s2 1 p1.toNatClampNeg)), (0, .ref (ad 12)), (1, .int p1), (2, .ref (ad (15 + g2))), (3, .int p3)]) hx hb d_WK_call_26 hl (by decide) rfl (fun ls hl => ?_)
    refine lv_aload_n hx hb d_WK_call_28 rfl (lv_at hl 1 rfl) ?_
    refine cw_get (C := R_WK) (T := F_WK) (N := 13) (v := .ref (ad 1)) hx hb hts (in_WK _) hown hK hP 12 (by decide) rfl rfl 5 (by decide) (ht _ wC_192) rfl d_WK_call_29 ?_
    refine lv_iload hx hb d_WK_call_32 (lv_at hl 0 rfl) ?_
    refine lv_iconst (v := 0) hx hb d_WK_call_34 (by decide) ?_
    refine va_calli (va_runV (As := [.int (gA s2 1 p1.toNatClampNeg), .int 0]) (rest := []) ⟨hx, hb, hml, hown, hts⟩ (c_PR_isByValue (D := D) (cs := cs) hi hq) (cwV 2 hts (good_V wC_491 wC_492 wC_493 wC_45 wC_494) rfl rfl rfl (by decide +kernel) ⟨(show 0 + 1 ≤ fV + 1 by omega), (show 8 + (3 + 11) + 0 ≤ lV + 24 by omega)⟩) ⟨cP_blind, va_recv hK hP (ci := 2) (q0 := 1) rfl (wd_at (by decide) rfl), fun U hU hW => ⟨rfl, by rw [hU]; exact hP, va_K.moved hW.alike hK, hN.warm hW⟩⟩ rfl rfl hl.1 rfl (lv_room (Nat.le_of_ble_eq_true rfl)) d_WK_call_35 ⟨Nat.le_of_ble_eq_true rfl, Nat.le_of_ble_eq_true rfl⟩) hS (fun q _ h => h) (fun q h => h) (fun r4 s5 t H locs ht0 hvm hq hB hz1 hk1 hS => ?_)
    obtain ⟨hP, -, -⟩ := hB
    rw [ht0] at hP
    refine lv_if_eq (tgt := 61) hx hb d_WK_call_38 (by decide) (fun c6 => ?_) (fun c6 => ?_)
    · have hq := hq.1 c6
      refine lv_dconst0 hx hb d_WK_call_61 ?_
      refine lv_dstore (lv' := [(5, .double FP.dconst0), (4, .int (gA s2 1 p1.toNatClampNeg)), (0, .ref (ad 12)), (1, .int p1), (2, .ref (ad (15 + g2))), (3, .int p3)]) hx hb d_WK_call_62 hl (by decide) rfl (fun ls hl => ?_)
      refine lv_aload_n hx hb d_WK_call_64 rfl (lv_at hl 2 rfl) ?_
      refine va_calli (va_runV (As := []) (rest := []) ⟨hx, hb, hml, hown, hts⟩ (c_WK_leaving (D := D) (cs := cs) hi hq) (cwV 0 hts (good_V wC_452 wC_454 wC_5 wC_48 wC_455) rfl rfl rfl (by decide +kernel) ⟨(show 0 + 1 ≤ fV + 1 by omega), (show 8 + (1 + 11) + 0 ≤ lV + 24 by omega)⟩) ⟨cP_blind, va_recv hK hP (ci := 4) (q0 := 12) rfl (wd_at (by decide) rfl), fun U hU hW => ⟨rfl, by rw [hU]; exact hP, va_K.moved hW.alike hK, hN.warm hW⟩⟩ rfl rfl hl.1 rfl (lv_room (Nat.le_of_ble_eq_true rfl)) d_WK_call_65 ⟨Nat.le_of_ble_eq_true rfl, Nat.le_of_ble_eq_true rfl⟩) hS (fun q _ h => h) (fun q h => h) (fun r7 s8 t H locs ht0 hvm hq hB hz1 hk1 hS => ?_)
      obtain ⟨hP, -, -⟩ := hB
      rw [ht0] at hP
      refine lv_if_eq (tgt := 73) hx hb d_WK_call_68 (by decide) (fun c9 => ?_) (fun c9 => ?_)
      · have hq := hq.1 c9
        refine lv_aload_n hx hb d_WK_call_73 rfl (lv_at hl 2 rfl) ?_
        refine cw_get (C := R_WK) (T := F_WK) (N := 13) (v := .ref (ad 1)) hx hb hts (in_WK _) hown hK hP 12 (by decide) rfl rfl 5 (by decide) (ht _ wC_192) rfl d_WK_call_74 ?_
        refine lv_iload hx hb d_WK_call_77 (lv_at hl 1 rfl) ?_
        refine lv_iconst (v := 1) hx hb d_WK_call_79 (by decide) ?_
        refine va_calli (va_runV (As := [.int (gA s2 1 p1.toNatClampNeg), .int 1]) (rest := []) ⟨hx, hb, hml, hown, hts⟩ (c_PR_isByValue (D := D) (cs := cs) hi hq) (cwV 2 hts (good_V wC_491 wC_492 wC_493 wC_45 wC_494) rfl rfl rfl (by decide +kernel) ⟨(show 0 + 1 ≤ fV + 1 by omega), (show 8 + (3 + 11) + 0 ≤ lV + 24 by omega)⟩) ⟨cP_blind, va_recv hK hP (ci := 2) (q0 := 1) rfl (wd_at (by decide) rfl), fun U hU hW => ⟨rfl, by rw [hU]; exact hP, va_K.moved hW.alike hK, hN.warm hW⟩⟩ rfl rfl hl.1 rfl (lv_room (Nat.le_of_ble_eq_true rfl)) d_WK_call_80 ⟨Nat.le_of_ble_eq_true rfl, Nat.le_of_ble_eq_true rfl⟩) hS (fun q _ h => h) (fun q h => h) (fun r10 s11 t H locs ht0 hvm hq hB hz1 hk1 hS => ?_)
        obtain ⟨hP, -, -⟩ := hB
        rw [ht0] at hP
        refine lv_if_eq (tgt := 106) hx hb d_WK_call_83 (by decide) (fun c12 => ?_) (fun c12 => ?_)
        · have hq := hq.1 c12
          refine lv_dconst0 hx hb d_WK_call_106 ?_
          refine lv_dstore (lv' := [(7, .double FP.dconst0), (5, .double FP.dconst0), (4, .int (gA s2 1 p1.toNatClampNeg)), (0, .ref (ad 12)), (1, .int p1), (2, .ref (ad (15 + g2))), (3, .int p3)]) hx hb d_WK_call_107 hl (by decide) rfl (fun ls hl => ?_)
          refine lv_aload_n hx hb d_WK_call_109 rfl (lv_at hl 3 rfl) ?_
          refine va_calli (va_runV (As := []) (rest := []) ⟨hx, hb, hml, hown, hts⟩ (c_WK_leaving (D := D) (cs := cs) hi hq) (cwV 0 hts (good_V wC_452 wC_454 wC_5 wC_48 wC_455) rfl rfl rfl (by decide +kernel) ⟨(show 0 + 1 ≤ fV + 1 by omega), (show 8 + (1 + 11) + 0 ≤ lV + 24 by omega)⟩) ⟨cP_blind, va_recv hK hP (ci := 4) (q0 := 12) rfl (wd_at (by decide) rfl), fun U hU hW => ⟨rfl, by rw [hU]; exact hP, va_K.moved hW.alike hK, hN.warm hW⟩⟩ rfl rfl hl.1 rfl (lv_room (Nat.le_of_ble_eq_true rfl)) d_WK_call_110 ⟨Nat.le_of_ble_eq_true rfl, Nat.le_of_ble_eq_true rfl⟩) hS (fun q _ h => h) (fun q h => h) (fun r13 s14 t H locs ht0 hvm hq hB hz1 hk1 hS => ?_)
          obtain ⟨hP, -, -⟩ := hB
          rw [ht0] at hP
          refine lv_if_ne (tgt := 123) hx hb d_WK_call_113 (by decide) (fun c15 => ?_) (fun c15 => ?_)
          · have hq := hq.2 c15
            refine lv_dconst0 hx hb d_WK_call_123 ?_
            exact W.dret hx hb hr (fun t ht hW => ⟨⟨FP.dconst0, s14, rfl, hq, by rw [ht]; exact hP, va_K.moved hW.alike hK, hN.warm hW⟩, hS.F ht⟩) hS.2.2 d_WK_call_124
          · have hq := hq.1 c15
            refine lv_aload_n hx hb d_WK_call_116 rfl (lv_at hl 3 rfl) ?_
            refine va_calli (va_runV (As := []) (rest := []) ⟨hx, hb, hml, hown, hts⟩ (c_WK_mayEnter (D := D) (cs := cs) hi hq) (cwV 0 hts (good_V wC_472 wC_474 wC_8 wC_48 wC_475) rfl rfl rfl (by decide +kernel) ⟨(show 1 + 1 ≤ fV + 1 by omega), (show 8 + (1 + 11) + 32 ≤ lV + 24 by omega)⟩) ⟨cP_blind, va_recv hK hP (ci := 4) (q0 := 12) rfl (wd_at (by decide) rfl), fun U hU hW => ⟨rfl, by rw [hU]; exact hP, va_K.moved hW.alike hK, hN.warm hW⟩⟩ rfl rfl hl.1 rfl (lv_room (Nat.le_of_ble_eq_true rfl)) d_WK_call_117 ⟨Nat.le_of_ble_eq_true rfl, Nat.le_of_ble_eq_true rfl⟩) hS (fun q _ h => h) (fun q h => h) (fun r16 s17 t H locs ht0 hvm hq hB hz1 hk1 hS => ?_)
            obtain ⟨hP, -, -⟩ := hB
            rw [ht0] at hP
            refine lv_if_ne (tgt := 125) hx hb d_WK_call_120 (by decide) (fun c18 => ?_) (fun c18 => ?_)
            · have hq := hq.2 c18
              refine lv_aload_n hx hb d_WK_call_125 rfl (lv_at hl 3 rfl) ?_
              refine cw_get (C := R_WK) (T := F_WK) (N := 13) (v := .ref (ad 14)) hx hb hts (in_WK _) hown hK hP 12 (by decide) rfl rfl 8 (by decide) (ht _ wC_195) rfl d_WK_call_126 ?_
              refine lv_aload_n hx hb d_WK_call_129 rfl (lv_at hl 3 rfl) ?_
              refine cw_get (C := R_WK) (T := F_WK) (N := 13) (v := .int (gI s17 5)) hx hb hts (in_WK _) hown hK hP 12 (by decide) rfl rfl 10 (by decide) (ht _ wC_197) rfl d_WK_call_130 ?_
              refine cw_aldq hx hb hK hP 14 (by decide) rfl 2 rfl hq.1 d_WK_call_133 ?_
              have hh19 : (gI s17 5).toNatClampNeg < 9 := Nat.lt_trans (vp_lt hq.1) (by decide)
              have hq := hq.2
              refine lv_astore (lv' := [(9, .ref (ad (15 + ((gI s17 5).toNatClampNeg)))), (7, .double FP.dconst0), (5, .double FP.dconst0), (4, .int (gA s2 1 p1.toNatClampNeg)), (0, .ref (ad 12)), (1, .int p1), (2, .ref (ad (15 + g2))), (3, .int p3)]) hx hb d_WK_call_134 hl (by decide) rfl (fun ls hl => ?_)
              refine lv_aload hx hb d_WK_call_136 (lv_at hl 0 rfl) ?_
              refine lv_aload_n hx hb d_WK_call_138 rfl (lv_at hl 6 rfl) ?_
              refine lv_aload_n hx hb d_WK_call_139 rfl (lv_at hl 4 rfl) ?_
              refine cw_get (C := R_WK) (T := F_WK) (N := 13) (v := .ref (ad 1)) hx hb hts (in_WK _) hown hK hP 12 (by decide) rfl rfl 5 (by decide) (ht _ wC_192) rfl d_WK_call_140 ?_
              refine cw_get (C := R_PR) (T := F_PR) (N := 8) (v := .ref (ad 7)) hx hb hts (in_PR _) hown hK hP 1 (by decide) rfl rfl 6 (by decide) (ht _ wC_95) rfl d_WK_call_143 ?_
              refine lv_iload hx hb d_WK_call_146 (lv_at hl 3 rfl) ?_
              refine cw_iald hx hb hK hP 7 (by decide) rfl 0 rfl hq.1 d_WK_call_148 ?_
              have hq := hq.2
              refine lv_aload_n hx hb d_WK_call_149 rfl (lv_at hl 4 rfl) ?_
              refine cw_get (C := R_WK) (T := F_WK) (N := 13) (v := .ref (ad 1)) hx hb hts (in_WK _) hown hK hP 12 (by decide) rfl rfl 5 (by decide) (ht _ wC_192) rfl d_WK_call_150 ?_
              refine cw_get (C := R_PR) (T := F_PR) (N := 8) (v := .ref (ad 8)) hx hb hts (in_PR _) hown hK hP 1 (by decide) rfl rfl 7 (by decide) (ht _ wC_97) rfl d_WK_call_153 ?_
              refine lv_iload hx hb d_WK_call_156 (lv_at hl 3 rfl) ?_
              refine cw_iald hx hb hK hP 8 (by decide) rfl 0 rfl hq.1 d_WK_call_158 ?_
              have hq := hq.2
              refine va_callv (va_runV (As := [.ref (ad (15 + g2)), .int (gA s17 5 ((gA s2 1 p1.toNatClampNeg).toNatClampNeg)), .int (gA s17 6 ((gA s2 1 p1.toNatClampNeg).toNatClampNeg))]) (rest := []) ⟨hx, hb, hml, hown, hts⟩ (c_EN_begin (D := D) (cs := cs) hi hq) (cwV 3 hts (good_V wC_495 wC_496 wC_497 wC_49 wC_498) rfl rfl rfl (by decide +kernel) ⟨(show 1 + 1 ≤ fV + 1 by omega), (show 8 + (4 + 11) + 24 ≤ lV + 24 by omega)⟩) ⟨cP_blind, va_recv hK hP (ci := 1) (q0 := (15 + ((gI s17 5).toNatClampNeg))) rfl (wd_at (by omega) (ct_o hh19)), fun U hU hW => ⟨rfl, by rw [hU]; exact hP, va_K.moved hW.alike hK, hN.warm hW⟩⟩ rfl rfl hl.1 rfl (lv_room (Nat.le_of_ble_eq_true rfl)) d_WK_call_159 ⟨Nat.le_of_ble_eq_true rfl, Nat.le_of_ble_eq_true rfl⟩) hS (fun q _ h => h) (fun q h => h) (fun s21 t H locs ht0 hvm hq hB hz1 hk1 hS => ?_)
              obtain ⟨hP, -, -⟩ := hB
              rw [ht0] at hP
              refine lv_aload hx hb d_WK_call_162 (lv_at hl 0 rfl) ?_
              refine lv_iconst (v := 0) hx hb d_WK_call_164 (by decide) ?_
              refine lv_aload_n hx hb d_WK_call_165 rfl (lv_at hl 4 rfl) ?_
              refine cw_get (C := R_WK) (T := F_WK) (N := 13) (v := .ref (ad 1)) hx hb hts (in_WK _) hown hK hP 12 (by decide) rfl rfl 5 (by decide) (ht _ wC_192) rfl d_WK_call_166 ?_
              refine cw_get (C := R_PR) (T := F_PR) (N := 8) (v := .ref (ad 4)) hx hb hts (in_PR _) hown hK hP 1 (by decide) rfl rfl 2 (by decide) (ht _ wC_85) rfl d_WK_call_169 ?_
              refine lv_iload_n hx hb d_WK_call_172 rfl (lv_at hl 5 rfl) ?_
              refine cw_iald hx hb hK hP 4 (by decide) rfl 0 rfl hq.1 d_WK_call_173 ?_
              have hq := hq.2
              refine lv_dload hx hb d_WK_call_174 (lv_at hl 2 rfl) ?_
              refine va_callv (va_runV (As := [.int 0, .int (gA s21 2 p1.toNatClampNeg), .double FP.dconst0]) (rest := []) ⟨hx, hb, hml, hown, hts⟩ (c_EN_give (D := D) (cs := cs) hi hq) (cwV 3 hts (good_V wC_500 wC_501 wC_502 wC_49 wC_503) rfl rfl rfl (by decide +kernel) ⟨(show 0 + 1 ≤ fV + 1 by omega), (show 8 + (5 + 11) + 0 ≤ lV + 24 by omega)⟩) ⟨cP_blind, va_recv hK hP (ci := 1) (q0 := (15 + ((gI s17 5).toNatClampNeg))) rfl (wd_at (by omega) (ct_o hh19)), fun U hU hW => ⟨rfl, by rw [hU]; exact hP, va_K.moved hW.alike hK, hN.warm hW⟩⟩ rfl rfl hl.1 rfl (lv_room (Nat.le_of_ble_eq_true rfl)) d_WK_call_176 ⟨Nat.le_of_ble_eq_true rfl, Nat.le_of_ble_eq_true rfl⟩) hS (fun q _ h => h) (fun q h => h) (fun s23 t H locs ht0 hvm hq hB hz1 hk1 hS => ?_)
              obtain ⟨hP, -, -⟩ := hB
              rw [ht0] at hP
              refine lv_aload hx hb d_WK_call_179 (lv_at hl 0 rfl) ?_
              refine lv_iconst (v := 1) hx hb d_WK_call_181 (by decide) ?_
              refine lv_aload_n hx hb d_WK_call_182 rfl (lv_at hl 4 rfl) ?_
              refine cw_get (C := R_WK) (T := F_WK) (N := 13) (v := .ref (ad 1)) hx hb hts (in_WK _) hown hK hP 12 (by decide) rfl rfl 5 (by decide) (ht _ wC_192) rfl d_WK_call_183 ?_
              refine cw_get (C := R_PR) (T := F_PR) (N := 8) (v := .ref (ad 5)) hx hb hts (in_PR _) hown hK hP 1 (by decide) rfl rfl 3 (by decide) (ht _ wC_89) rfl d_WK_call_186 ?_
              refine lv_iload_n hx hb d_WK_call_189 rfl (lv_at hl 5 rfl) ?_
              refine cw_iald hx hb hK hP 5 (by decide) rfl 0 rfl hq.1 d_WK_call_190 ?_
              have hq := hq.2
              refine lv_dload hx hb d_WK_call_191 (lv_at hl 1 rfl) ?_
              refine va_callv (va_runV (As := [.int 1, .int (gA s23 3 p1.toNatClampNeg), .double FP.dconst0]) (rest := []) ⟨hx, hb, hml, hown, hts⟩ (c_EN_give (D := D) (cs := cs) hi hq) (cwV 3 hts (good_V wC_500 wC_501 wC_502 wC_49 wC_503) rfl rfl rfl (by decide +kernel) ⟨(show 0 + 1 ≤ fV + 1 by omega), (show 8 + (5 + 11) + 0 ≤ lV + 24 by omega)⟩) ⟨cP_blind, va_recv hK hP (ci := 1) (q0 := (15 + ((gI s17 5).toNatClampNeg))) rfl (wd_at (by omega) (ct_o hh19)), fun U hU hW => ⟨rfl, by rw [hU]; exact hP, va_K.moved hW.alike hK, hN.warm hW⟩⟩ rfl rfl hl.1 rfl (lv_room (Nat.le_of_ble_eq_true rfl)) d_WK_call_193 ⟨Nat.le_of_ble_eq_true rfl, Nat.le_of_ble_eq_true rfl⟩) hS (fun q _ h => h) (fun q h => h) (fun s25 t H locs ht0 hvm hq hB hz1 hk1 hS => ?_)
              obtain ⟨hP, -, -⟩ := hB
              rw [ht0] at hP
              refine lv_aload_n hx hb d_WK_call_196 rfl (lv_at hl 4 rfl) ?_
              refine lv_dup hx hb d_WK_call_197 rfl ?_
              refine cw_get (C := R_WK) (T := F_WK) (N := 13) (v := .int (gI s25 5)) hx hb hts (in_WK _) hown hK hP 12 (by decide) rfl rfl 10 (by decide) (ht _ wC_197) rfl d_WK_call_198 ?_
              refine lv_iconst (v := 1) hx hb d_WK_call_201 (by decide) ?_
              refine lv_iadd hx hb d_WK_call_202 ?_
              refine cw_put (C := R_WK) (T := F_WK) (N := 13) (ty := .int) (v := .int ((gI s25 5) + 1)) hx hb hts (in_WK _) t_WK tok_WK n_WK hown hK hP hi hS 12 (by decide) rfl rfl 10 (by decide) (ht _ wC_197) rfl (by decide +kernel) rfl rfl (Nat.le_of_ble_eq_true rfl) up_WK_openCalls d_WK_call_203 (fun H locs hP hS => ?_)
              obtain ⟨s26, e_s26⟩ : ∃ z, z = sI s25 5 ((gI s25 5) + 1) := ⟨_, rfl⟩
              rw [← e_s26] at hP
              have hq := hq s26 e_s26
              refine lv_aload_n hx hb d_WK_call_206 rfl (lv_at hl 4 rfl) ?_
              refine lv_dup hx hb d_WK_call_207 rfl ?_
              refine cw_get (C := R_WK) (T := F_WK) (N := 13) (v := .int (gI s26 2)) hx hb hts (in_WK _) hown hK hP 12 (by decide) rfl rfl 2 (by decide) (ht _ wC_186) rfl d_WK_call_208 ?_
              refine lv_iconst (v := 1) hx hb d_WK_call_211 (by decide) ?_
              refine lv_iadd hx hb d_WK_call_212 ?_
              refine cw_put (C := R_WK) (T := F_WK) (N := 13) (ty := .int) (v := .int ((gI s26 2) + 1)) hx hb hts (in_WK _) t_WK tok_WK n_WK hown hK hP hi hS 12 (by decide) rfl rfl 2 (by decide) (ht _ wC_186) rfl (by decide +kernel) rfl rfl (Nat.le_of_ble_eq_true rfl) up_WK_bodiesBegun d_WK_call_213 (fun H locs hP hS => ?_)
              obtain ⟨s27, e_s27⟩ : ∃ z, z = sI s26 2 ((gI s26 2) + 1) := ⟨_, rfl⟩
              rw [← e_s27] at hP
              have hq := hq s27 e_s27
              refine lv_aload_n hx hb d_WK_call_216 rfl (lv_at hl 4 rfl) ?_
              refine lv_aload_n hx hb d_WK_call_217 rfl (lv_at hl 4 rfl) ?_
              refine cw_get (C := R_WK) (T := F_WK) (N := 13) (v := .ref (ad 1)) hx hb hts (in_WK _) hown hK hP 12 (by decide) rfl rfl 5 (by decide) (ht _ wC_192) rfl d_WK_call_218 ?_
              refine cw_get (C := R_PR) (T := F_PR) (N := 8) (v := .ref (ad 6)) hx hb hts (in_PR _) hown hK hP 1 (by decide) rfl rfl 5 (by decide) (ht _ wC_93) rfl d_WK_call_221 ?_
              refine lv_iload hx hb d_WK_call_224 (lv_at hl 3 rfl) ?_
              refine cw_iald hx hb hK hP 6 (by decide) rfl 0 rfl hq.1 d_WK_call_226 ?_
              have hq := hq.2
              refine lv_aload hx hb d_WK_call_227 (lv_at hl 0 rfl) ?_
              refine lv_iload_n hx hb d_WK_call_229 rfl (lv_at hl 7 rfl) ?_
              refine lv_iconst (v := 1) hx hb d_WK_call_230 (by decide) ?_
              refine lv_iadd hx hb d_WK_call_231 ?_
              refine va_calld (va_runV (As := [.int (gA s27 4 ((gA s2 1 p1.toNatClampNeg).toNatClampNeg)), .ref (ad (15 + ((gI s17 5).toNatClampNeg))), .int (p3 + 1)]) (rest := []) ⟨hx, hb, hml, hown, hts⟩ (hV hq) (cwV 3 hts (good_V wC_439 wC_441 wC_2 wC_48 wC_442) rfl rfl rfl (by decide +kernel) ⟨(show fV + 1 ≤ fV + 1 by omega), (show 8 + (5 + 11) + lV ≤ lV + 24 by omega)⟩) ⟨cP_blind, va_recv hK hP (ci := 4) (q0 := 12) rfl (wd_at (by decide) rfl), fun U hU hW => ⟨rfl, by rw [hU]; exact hP, va_K.moved hW.alike hK, hN.warm hW⟩⟩ rfl rfl hl.1 rfl (lv_room (Nat.le_of_ble_eq_true rfl)) d_WK_call_232 ⟨Nat.le_of_ble_eq_true rfl, Nat.le_of_ble_eq_true rfl⟩) hS (fun q _ h => h) (fun q h => h) (fun r28 s29 t H locs ht0 hvm hq hB hz1 hk1 hS => ?_)
              obtain ⟨hP, -, -⟩ := hB
              rw [ht0] at hP
              refine lv_dstore (lv' := [(10, .double r28), (9, .ref (ad (15 + ((gI s17 5).toNatClampNeg)))), (7, .double FP.dconst0), (5, .double FP.dconst0), (4, .int (gA s2 1 p1.toNatClampNeg)), (0, .ref (ad 12)), (1, .int p1), (2, .ref (ad (15 + g2))), (3, .int p3)]) hx hb d_WK_call_235 hl (by decide) rfl (fun ls hl => ?_)
              refine lv_aload_n hx hb d_WK_call_237 rfl (lv_at hl 5 rfl) ?_
              refine lv_dup hx hb d_WK_call_238 rfl ?_
              refine cw_get (C := R_WK) (T := F_WK) (N := 13) (v := .int (gI s29 5)) hx hb hts (in_WK _) hown hK hP 12 (by decide) rfl rfl 10 (by decide) (ht _ wC_197) rfl d_WK_call_239 ?_
              refine lv_iconst (v := 1) hx hb d_WK_call_242 (by decide) ?_
              refine lv_isub hx hb d_WK_call_243 ?_
              refine cw_put (C := R_WK) (T := F_WK) (N := 13) (ty := .int) (v := .int ((gI s29 5) - 1)) hx hb hts (in_WK _) t_WK tok_WK n_WK hown hK hP hi hS 12 (by decide) rfl rfl 10 (by decide) (ht _ wC_197) rfl (by decide +kernel) rfl rfl (Nat.le_of_ble_eq_true rfl) up_WK_openCalls d_WK_call_244 (fun H locs hP hS => ?_)
              obtain ⟨s30, e_s30⟩ : ∃ z, z = sI s29 5 ((gI s29 5) - 1) := ⟨_, rfl⟩
              rw [← e_s30] at hP
              have hq := hq s30 e_s30
              refine lv_aload_n hx hb d_WK_call_247 rfl (lv_at hl 5 rfl) ?_
              refine lv_dup hx hb d_WK_call_248 rfl ?_
              refine cw_get (C := R_WK) (T := F_WK) (N := 13) (v := .int (gI s30 6)) hx hb hts (in_WK _) hown hK hP 12 (by decide) rfl rfl 11 (by decide) (ht _ wC_198) rfl d_WK_call_249 ?_
              refine lv_iconst (v := 1) hx hb d_WK_call_252 (by decide) ?_
              refine lv_isub hx hb d_WK_call_253 ?_
              refine cw_put (C := R_WK) (T := F_WK) (N := 13) (ty := .int) (v := .int ((gI s30 6) - 1)) hx hb hts (in_WK _) t_WK tok_WK n_WK hown hK hP hi hS 12 (by decide) rfl rfl 11 (by decide) (ht _ wC_198) rfl (by decide +kernel) rfl rfl (Nat.le_of_ble_eq_true rfl) up_WK_openEnvironments d_WK_call_254 (fun H locs hP hS => ?_)
              obtain ⟨s31, e_s31⟩ : ∃ z, z = sI s30 6 ((gI s30 6) - 1) := ⟨_, rfl⟩
              rw [← e_s31] at hP
              have hq := hq s31 e_s31
              refine lv_dload hx hb d_WK_call_257 (lv_at hl 0 rfl) ?_
              exact W.dret hx hb hr (fun t ht hW => ⟨⟨r28, s31, rfl, hq, by rw [ht]; exact hP, va_K.moved hW.alike hK, hN.warm hW⟩, hS.F ht⟩) hS.2.2 d_WK_call_259
            · have hq := hq.1 c18
              refine lv_dconst0 hx hb d_WK_call_123 ?_
              exact W.dret hx hb hr (fun t ht hW => ⟨⟨FP.dconst0, s17, rfl, hq, by rw [ht]; exact hP, va_K.moved hW.alike hK, hN.warm hW⟩, hS.F ht⟩) hS.2.2 d_WK_call_124
        · have hq := hq.2 c12
          refine lv_aload_n hx hb d_WK_call_86 rfl (lv_at hl 2 rfl) ?_
          refine lv_aload_n hx hb d_WK_call_87 rfl (lv_at hl 2 rfl) ?_
          refine cw_get (C := R_WK) (T := F_WK) (N := 13) (v := .ref (ad 1)) hx hb hts (in_WK _) hown hK hP 12 (by decide) rfl rfl 5 (by decide) (ht _ wC_192) rfl d_WK_call_88 ?_
          refine cw_get (C := R_PR) (T := F_PR) (N := 8) (v := .ref (ad 5)) hx hb hts (in_PR _) hown hK hP 1 (by decide) rfl rfl 3 (by decide) (ht _ wC_89) rfl d_WK_call_91 ?_
          refine lv_iload_n hx hb d_WK_call_94 rfl (lv_at hl 3 rfl) ?_
          refine cw_iald hx hb hK hP 5 (by decide) rfl 0 rfl hq.1 d_WK_call_95 ?_
          have hq := hq.2
          refine lv_aload_n hx hb d_WK_call_96 rfl (lv_at hl 4 rfl) ?_
          refine lv_iload_n hx hb d_WK_call_97 rfl (lv_at hl 5 rfl) ?_
          refine lv_iconst (v := 1) hx hb d_WK_call_98 (by decide) ?_
          refine lv_iadd hx hb d_WK_call_99 ?_
          refine va_calld (va_runV (As := [.int (gA s11 3 p1.toNatClampNeg), .ref (ad (15 + g2)), .int (p3 + 1)]) (rest := []) ⟨hx, hb, hml, hown, hts⟩ (hV hq) (cwV 3 hts (good_V wC_439 wC_441 wC_2 wC_48 wC_442) rfl rfl rfl (by decide +kernel) ⟨(show fV + 1 ≤ fV + 1 by omega), (show 8 + (5 + 11) + lV ≤ lV + 24 by omega)⟩) ⟨cP_blind, va_recv hK hP (ci := 4) (q0 := 12) rfl (wd_at (by decide) rfl), fun U hU hW => ⟨rfl, by rw [hU]; exact hP, va_K.moved hW.alike hK, hN.warm hW⟩⟩ rfl rfl hl.1 rfl (lv_room (Nat.le_of_ble_eq_true rfl)) d_WK_call_100 ⟨Nat.le_of_ble_eq_true rfl, Nat.le_of_ble_eq_true rfl⟩) hS (fun q _ h => h) (fun q h => h) (fun r32 s33 t H locs ht0 hvm hq hB hz1 hk1 hS => ?_)
          obtain ⟨hP, -, -⟩ := hB
          rw [ht0] at hP
          refine lv_goto (tgt := 107) hx hb d_WK_call_103 (by decide) ?_
          refine lv_dstore (lv' := [(7, .double r32), (5, .double FP.dconst0), (4, .int (gA s2 1 p1.toNatClampNeg)), (0, .ref (ad 12)), (1, .int p1), (2, .ref (ad (15 + g2))), (3, .int p3)]) hx hb d_WK_call_107 hl (by decide) rfl (fun ls hl => ?_)
          refine lv_aload_n hx hb d_WK_call_109 rfl (lv_at hl 3 rfl) ?_
          refine va_calli (va_runV (As := []) (rest := []) ⟨hx, hb, hml, hown, hts⟩ (c_WK_leaving (D := D) (cs := cs) hi hq) (cwV 0 hts (good_V wC_452 wC_454 wC_5 wC_48 wC_455) rfl rfl rfl (by decide +kernel) ⟨(show 0 + 1 ≤ fV + 1 by omega), (show 8 + (1 + 11) + 0 ≤ lV + 24 by omega)⟩) ⟨cP_blind, va_recv hK hP (ci := 4) (q0 := 12) rfl (wd_at (by decide) rfl), fun U hU hW => ⟨rfl, by rw [hU]; exact hP, va_K.moved hW.alike hK, hN.warm hW⟩⟩ rfl rfl hl.1 rfl (lv_room (Nat.le_of_ble_eq_true rfl)) d_WK_call_110 ⟨Nat.le_of_ble_eq_true rfl, Nat.le_of_ble_eq_true rfl⟩) hS (fun q _ h => h) (fun q h => h) (fun r34 s35 t H locs ht0 hvm hq hB hz1 hk1 hS => ?_)
          obtain ⟨hP, -, -⟩ := hB
          rw [ht0] at hP
          refine lv_if_ne (tgt := 123) hx hb d_WK_call_113 (by decide) (fun c36 => ?_) (fun c36 => ?_)
          · have hq := hq.2 c36
            refine lv_dconst0 hx hb d_WK_call_123 ?_
            exact W.dret hx hb hr (fun t ht hW => ⟨⟨FP.dconst0, s35, rfl, hq, by rw [ht]; exact hP, va_K.moved hW.alike hK, hN.warm hW⟩, hS.F ht⟩) hS.2.2 d_WK_call_124
          · have hq := hq.1 c36
            refine lv_aload_n hx hb d_WK_call_116 rfl (lv_at hl 3 rfl) ?_
            refine va_calli (va_runV (As := []) (rest := []) ⟨hx, hb, hml, hown, hts⟩ (c_WK_mayEnter (D := D) (cs := cs) hi hq) (cwV 0 hts (good_V wC_472 wC_474 wC_8 wC_48 wC_475) rfl rfl rfl (by decide +kernel) ⟨(show 1 + 1 ≤ fV + 1 by omega), (show 8 + (1 + 11) + 32 ≤ lV + 24 by omega)⟩) ⟨cP_blind, va_recv hK hP (ci := 4) (q0 := 12) rfl (wd_at (by decide) rfl), fun U hU hW => ⟨rfl, by rw [hU]; exact hP, va_K.moved hW.alike hK, hN.warm hW⟩⟩ rfl rfl hl.1 rfl (lv_room (Nat.le_of_ble_eq_true rfl)) d_WK_call_117 ⟨Nat.le_of_ble_eq_true rfl, Nat.le_of_ble_eq_true rfl⟩) hS (fun q _ h => h) (fun q h => h) (fun r37 s38 t H locs ht0 hvm hq hB hz1 hk1 hS => ?_)
            obtain ⟨hP, -, -⟩ := hB
            rw [ht0] at hP
            refine lv_if_ne (tgt := 125) hx hb d_WK_call_120 (by decide) (fun c39 => ?_) (fun c39 => ?_)
            · have hq := hq.2 c39
              refine lv_aload_n hx hb d_WK_call_125 rfl (lv_at hl 3 rfl) ?_
              refine cw_get (C := R_WK) (T := F_WK) (N := 13) (v := .ref (ad 14)) hx hb hts (in_WK _) hown hK hP 12 (by decide) rfl rfl 8 (by decide) (ht _ wC_195) rfl d_WK_call_126 ?_
              refine lv_aload_n hx hb d_WK_call_129 rfl (lv_at hl 3 rfl) ?_
              refine cw_get (C := R_WK) (T := F_WK) (N := 13) (v := .int (gI s38 5)) hx hb hts (in_WK _) hown hK hP 12 (by decide) rfl rfl 10 (by decide) (ht _ wC_197) rfl d_WK_call_130 ?_
              refine cw_aldq hx hb hK hP 14 (by decide) rfl 2 rfl hq.1 d_WK_call_133 ?_
              have hh40 : (gI s38 5).toNatClampNeg < 9 := Nat.lt_trans (vp_lt hq.1) (by decide)
              have hq := hq.2
              refine lv_astore (lv' := [(9, .ref (ad (15 + ((gI s38 5).toNatClampNeg)))), (7, .double r32), (5, .double FP.dconst0), (4, .int (gA s2 1 p1.toNatClampNeg)), (0, .ref (ad 12)), (1, .int p1), (2, .ref (ad (15 + g2))), (3, .int p3)]) hx hb d_WK_call_134 hl (by decide) rfl (fun ls hl => ?_)
              refine lv_aload hx hb d_WK_call_136 (lv_at hl 0 rfl) ?_
              refine lv_aload_n hx hb d_WK_call_138 rfl (lv_at hl 6 rfl) ?_
              refine lv_aload_n hx hb d_WK_call_139 rfl (lv_at hl 4 rfl) ?_
              refine cw_get (C := R_WK) (T := F_WK) (N := 13) (v := .ref (ad 1)) hx hb hts (in_WK _) hown hK hP 12 (by decide) rfl rfl 5 (by decide) (ht _ wC_192) rfl d_WK_call_140 ?_
              refine cw_get (C := R_PR) (T := F_PR) (N := 8) (v := .ref (ad 7)) hx hb hts (in_PR _) hown hK hP 1 (by decide) rfl rfl 6 (by decide) (ht _ wC_95) rfl d_WK_call_143 ?_
              refine lv_iload hx hb d_WK_call_146 (lv_at hl 3 rfl) ?_
              refine cw_iald hx hb hK hP 7 (by decide) rfl 0 rfl hq.1 d_WK_call_148 ?_
              have hq := hq.2
              refine lv_aload_n hx hb d_WK_call_149 rfl (lv_at hl 4 rfl) ?_
              refine cw_get (C := R_WK) (T := F_WK) (N := 13) (v := .ref (ad 1)) hx hb hts (in_WK _) hown hK hP 12 (by decide) rfl rfl 5 (by decide) (ht _ wC_192) rfl d_WK_call_150 ?_
              refine cw_get (C := R_PR) (T := F_PR) (N := 8) (v := .ref (ad 8)) hx hb hts (in_PR _) hown hK hP 1 (by decide) rfl rfl 7 (by decide) (ht _ wC_97) rfl d_WK_call_153 ?_
              refine lv_iload hx hb d_WK_call_156 (lv_at hl 3 rfl) ?_
              refine cw_iald hx hb hK hP 8 (by decide) rfl 0 rfl hq.1 d_WK_call_158 ?_
              have hq := hq.2
              refine va_callv (va_runV (As := [.ref (ad (15 + g2)), .int (gA s38 5 ((gA s2 1 p1.toNatClampNeg).toNatClampNeg)), .int (gA s38 6 ((gA s2 1 p1.toNatClampNeg).toNatClampNeg))]) (rest := []) ⟨hx, hb, hml, hown, hts⟩ (c_EN_begin (D := D) (cs := cs) hi hq) (cwV 3 hts (good_V wC_495 wC_496 wC_497 wC_49 wC_498) rfl rfl rfl (by decide +kernel) ⟨(show 1 + 1 ≤ fV + 1 by omega), (show 8 + (4 + 11) + 24 ≤ lV + 24 by omega)⟩) ⟨cP_blind, va_recv hK hP (ci := 1) (q0 := (15 + ((gI s38 5).toNatClampNeg))) rfl (wd_at (by omega) (ct_o hh40)), fun U hU hW => ⟨rfl, by rw [hU]; exact hP, va_K.moved hW.alike hK, hN.warm hW⟩⟩ rfl rfl hl.1 rfl (lv_room (Nat.le_of_ble_eq_true rfl)) d_WK_call_159 ⟨Nat.le_of_ble_eq_true rfl, Nat.le_of_ble_eq_true rfl⟩) hS (fun q _ h => h) (fun q h => h) (fun s42 t H locs ht0 hvm hq hB hz1 hk1 hS => ?_)
              obtain ⟨hP, -, -⟩ := hB
              rw [ht0] at hP
              refine lv_aload hx hb d_WK_call_162 (lv_at hl 0 rfl) ?_
              refine lv_iconst (v := 0) hx hb d_WK_call_164 (by decide) ?_
              refine lv_aload_n hx hb d_WK_call_165 rfl (lv_at hl 4 rfl) ?_
              refine cw_get (C := R_WK) (T := F_WK) (N := 13) (v := .ref (ad 1)) hx hb hts (in_WK _) hown hK hP 12 (by decide) rfl rfl 5 (by decide) (ht _ wC_192) rfl d_WK_call_166 ?_
              refine cw_get (C := R_PR) (T := F_PR) (N := 8) (v := .ref (ad 4)) hx hb hts (in_PR _) hown hK hP 1 (by decide) rfl rfl 2 (by decide) (ht _ wC_85) rfl d_WK_call_169 ?_
              refine lv_iload_n hx hb d_WK_call_172 rfl (lv_at hl 5 rfl) ?_
              refine cw_iald hx hb hK hP 4 (by decide) rfl 0 rfl hq.1 d_WK_call_173 ?_
              have hq := hq.2
              refine lv_dload hx hb d_WK_call_174 (lv_at hl 2 rfl) ?_
              refine va_callv (va_runV (As := [.int 0, .int (gA s42 2 p1.toNatClampNeg), .double FP.dconst0]) (rest := []) ⟨hx, hb, hml, hown, hts⟩ (c_EN_give (D := D) (cs := cs) hi hq) (cwV 3 hts (good_V wC_500 wC_501 wC_502 wC_49 wC_503) rfl rfl rfl (by decide +kernel) ⟨(show 0 + 1 ≤ fV + 1 by omega), (show 8 + (5 + 11) + 0 ≤ lV + 24 by omega)⟩) ⟨cP_blind, va_recv hK hP (ci := 1) (q0 := (15 + ((gI s38 5).toNatClampNeg))) rfl (wd_at (by omega) (ct_o hh40)), fun U hU hW => ⟨rfl, by rw [hU]; exact hP, va_K.moved hW.alike hK, hN.warm hW⟩⟩ rfl rfl hl.1 rfl (lv_room (Nat.le_of_ble_eq_true rfl)) d_WK_call_176 ⟨Nat.le_of_ble_eq_true rfl, Nat.le_of_ble_eq_true rfl⟩) hS (fun q _ h => h) (fun q h => h) (fun s44 t H locs ht0 hvm hq hB hz1 hk1 hS => ?_)
              obtain ⟨hP, -, -⟩ := hB
              rw [ht0] at hP
              refine lv_aload hx hb d_WK_call_179 (lv_at hl 0 rfl) ?_
              refine lv_iconst (v := 1) hx hb d_WK_call_181 (by decide) ?_
              refine lv_aload_n hx hb d_WK_call_182 rfl (lv_at hl 4 rfl) ?_
              refine cw_get (C := R_WK) (T := F_WK) (N := 13) (v := .ref (ad 1)) hx hb hts (in_WK _) hown hK hP 12 (by decide) rfl rfl 5 (by decide) (ht _ wC_192) rfl d_WK_call_183 ?_
              refine cw_get (C := R_PR) (T := F_PR) (N := 8) (v := .ref (ad 5)) hx hb hts (in_PR _) hown hK hP 1 (by decide) rfl rfl 3 (by decide) (ht _ wC_89) rfl d_WK_call_186 ?_
              refine lv_iload_n hx hb d_WK_call_189 rfl (lv_at hl 5 rfl) ?_
              refine cw_iald hx hb hK hP 5 (by decide) rfl 0 rfl hq.1 d_WK_call_190 ?_
              have hq := hq.2
              refine lv_dload hx hb d_WK_call_191 (lv_at hl 1 rfl) ?_
              refine va_callv (va_runV (As := [.int 1, .int (gA s44 3 p1.toNatClampNeg), .double r32]) (rest := []) ⟨hx, hb, hml, hown, hts⟩ (c_EN_give (D := D) (cs := cs) hi hq) (cwV 3 hts (good_V wC_500 wC_501 wC_502 wC_49 wC_503) rfl rfl rfl (by decide +kernel) ⟨(show 0 + 1 ≤ fV + 1 by omega), (show 8 + (5 + 11) + 0 ≤ lV + 24 by omega)⟩) ⟨cP_blind, va_recv hK hP (ci := 1) (q0 := (15 + ((gI s38 5).toNatClampNeg))) rfl (wd_at (by omega) (ct_o hh40)), fun U hU hW => ⟨rfl, by rw [hU]; exact hP, va_K.moved hW.alike hK, hN.warm hW⟩⟩ rfl rfl hl.1 rfl (lv_room (Nat.le_of_ble_eq_true rfl)) d_WK_call_193 ⟨Nat.le_of_ble_eq_true rfl, Nat.le_of_ble_eq_true rfl⟩) hS (fun q _ h => h) (fun q h => h) (fun s46 t H locs ht0 hvm hq hB hz1 hk1 hS => ?_)
              obtain ⟨hP, -, -⟩ := hB
              rw [ht0] at hP
              refine lv_aload_n hx hb d_WK_call_196 rfl (lv_at hl 4 rfl) ?_
              refine lv_dup hx hb d_WK_call_197 rfl ?_
              refine cw_get (C := R_WK) (T := F_WK) (N := 13) (v := .int (gI s46 5)) hx hb hts (in_WK _) hown hK hP 12 (by decide) rfl rfl 10 (by decide) (ht _ wC_197) rfl d_WK_call_198 ?_
              refine lv_iconst (v := 1) hx hb d_WK_call_201 (by decide) ?_
              refine lv_iadd hx hb d_WK_call_202 ?_
              refine cw_put (C := R_WK) (T := F_WK) (N := 13) (ty := .int) (v := .int ((gI s46 5) + 1)) hx hb hts (in_WK _) t_WK tok_WK n_WK hown hK hP hi hS 12 (by decide) rfl rfl 10 (by decide) (ht _ wC_197) rfl (by decide +kernel) rfl rfl (Nat.le_of_ble_eq_true rfl) up_WK_openCalls d_WK_call_203 (fun H locs hP hS => ?_)
              obtain ⟨s47, e_s47⟩ : ∃ z, z = sI s46 5 ((gI s46 5) + 1) := ⟨_, rfl⟩
              rw [← e_s47] at hP
              have hq := hq s47 e_s47
              refine lv_aload_n hx hb d_WK_call_206 rfl (lv_at hl 4 rfl) ?_
              refine lv_dup hx hb d_WK_call_207 rfl ?_
              refine cw_get (C := R_WK) (T := F_WK) (N := 13) (v := .int (gI s47 2)) hx hb hts (in_WK _) hown hK hP 12 (by decide) rfl rfl 2 (by decide) (ht _ wC_186) rfl d_WK_call_208 ?_
              refine lv_iconst (v := 1) hx hb d_WK_call_211 (by decide) ?_
              refine lv_iadd hx hb d_WK_call_212 ?_
              refine cw_put (C := R_WK) (T := F_WK) (N := 13) (ty := .int) (v := .int ((gI s47 2) + 1)) hx hb hts (in_WK _) t_WK tok_WK n_WK hown hK hP hi hS 12 (by decide) rfl rfl 2 (by decide) (ht _ wC_186) rfl (by decide +kernel) rfl rfl (Nat.le_of_ble_eq_true rfl) up_WK_bodiesBegun d_WK_call_213 (fun H locs hP hS => ?_)
              obtain ⟨s48, e_s48⟩ : ∃ z, z = sI s47 2 ((gI s47 2) + 1) := ⟨_, rfl⟩
              rw [← e_s48] at hP
              have hq := hq s48 e_s48
              refine lv_aload_n hx hb d_WK_call_216 rfl (lv_at hl 4 rfl) ?_
              refine lv_aload_n hx hb d_WK_call_217 rfl (lv_at hl 4 rfl) ?_
              refine cw_get (C := R_WK) (T := F_WK) (N := 13) (v := .ref (ad 1)) hx hb hts (in_WK _) hown hK hP 12 (by decide) rfl rfl 5 (by decide) (ht _ wC_192) rfl d_WK_call_218 ?_
              refine cw_get (C := R_PR) (T := F_PR) (N := 8) (v := .ref (ad 6)) hx hb hts (in_PR _) hown hK hP 1 (by decide) rfl rfl 5 (by decide) (ht _ wC_93) rfl d_WK_call_221 ?_
              refine lv_iload hx hb d_WK_call_224 (lv_at hl 3 rfl) ?_
              refine cw_iald hx hb hK hP 6 (by decide) rfl 0 rfl hq.1 d_WK_call_226 ?_
              have hq := hq.2
              refine lv_aload hx hb d_WK_call_227 (lv_at hl 0 rfl) ?_
              refine lv_iload_n hx hb d_WK_call_229 rfl (lv_at hl 7 rfl) ?_
              refine lv_iconst (v := 1) hx hb d_WK_call_230 (by decide) ?_
              refine lv_iadd hx hb d_WK_call_231 ?_
              refine va_calld (va_runV (As := [.int (gA s48 4 ((gA s2 1 p1.toNatClampNeg).toNatClampNeg)), .ref (ad (15 + ((gI s38 5).toNatClampNeg))), .int (p3 + 1)]) (rest := []) ⟨hx, hb, hml, hown, hts⟩ (hV hq) (cwV 3 hts (good_V wC_439 wC_441 wC_2 wC_48 wC_442) rfl rfl rfl (by decide +kernel) ⟨(show fV + 1 ≤ fV + 1 by omega), (show 8 + (5 + 11) + lV ≤ lV + 24 by omega)⟩) ⟨cP_blind, va_recv hK hP (ci := 4) (q0 := 12) rfl (wd_at (by decide) rfl), fun U hU hW => ⟨rfl, by rw [hU]; exact hP, va_K.moved hW.alike hK, hN.warm hW⟩⟩ rfl rfl hl.1 rfl (lv_room (Nat.le_of_ble_eq_true rfl)) d_WK_call_232 ⟨Nat.le_of_ble_eq_true rfl, Nat.le_of_ble_eq_true rfl⟩) hS (fun q _ h => h) (fun q h => h) (fun r49 s50 t H locs ht0 hvm hq hB hz1 hk1 hS => ?_)
              obtain ⟨hP, -, -⟩ := hB
              rw [ht0] at hP
              refine lv_dstore (lv' := [(10, .double r49), (9, .ref (ad (15 + ((gI s38 5).toNatClampNeg)))), (7, .double r32), (5, .double FP.dconst0), (4, .int (gA s2 1 p1.toNatClampNeg)), (0, .ref (ad 12)), (1, .int p1), (2, .ref (ad (15 + g2))), (3, .int p3)]) hx hb d_WK_call_235 hl (by decide) rfl (fun ls hl => ?_)
              refine lv_aload_n hx hb d_WK_call_237 rfl (lv_at hl 5 rfl) ?_
              refine lv_dup hx hb d_WK_call_238 rfl ?_
              refine cw_get (C := R_WK) (T := F_WK) (N := 13) (v := .int (gI s50 5)) hx hb hts (in_WK _) hown hK hP 12 (by decide) rfl rfl 10 (by decide) (ht _ wC_197) rfl d_WK_call_239 ?_
              refine lv_iconst (v := 1) hx hb d_WK_call_242 (by decide) ?_
              refine lv_isub hx hb d_WK_call_243 ?_
              refine cw_put (C := R_WK) (T := F_WK) (N := 13) (ty := .int) (v := .int ((gI s50 5) - 1)) hx hb hts (in_WK _) t_WK tok_WK n_WK hown hK hP hi hS 12 (by decide) rfl rfl 10 (by decide) (ht _ wC_197) rfl (by decide +kernel) rfl rfl (Nat.le_of_ble_eq_true rfl) up_WK_openCalls d_WK_call_244 (fun H locs hP hS => ?_)
              obtain ⟨s51, e_s51⟩ : ∃ z, z = sI s50 5 ((gI s50 5) - 1) := ⟨_, rfl⟩
              rw [← e_s51] at hP
              have hq := hq s51 e_s51
              refine lv_aload_n hx hb d_WK_call_247 rfl (lv_at hl 5 rfl) ?_
              refine lv_dup hx hb d_WK_call_248 rfl ?_
              refine cw_get (C := R_WK) (T := F_WK) (N := 13) (v := .int (gI s51 6)) hx hb hts (in_WK _) hown hK hP 12 (by decide) rfl rfl 11 (by decide) (ht _ wC_198) rfl d_WK_call_249 ?_
              refine lv_iconst (v := 1) hx hb d_WK_call_252 (by decide) ?_
              refine lv_isub hx hb d_WK_call_253 ?_
              refine cw_put (C := R_WK) (T := F_WK) (N := 13) (ty := .int) (v := .int ((gI s51 6) - 1)) hx hb hts (in_WK _) t_WK tok_WK n_WK hown hK hP hi hS 12 (by decide) rfl rfl 11 (by decide) (ht _ wC_198) rfl (by decide +kernel) rfl rfl (Nat.le_of_ble_eq_true rfl) up_WK_openEnvironments d_WK_call_254 (fun H locs hP hS => ?_)
              obtain ⟨s52, e_s52⟩ : ∃ z, z = sI s51 6 ((gI s51 6) - 1) := ⟨_, rfl⟩
              rw [← e_s52] at hP
              have hq := hq s52 e_s52
              refine lv_dload hx hb d_WK_call_257 (lv_at hl 0 rfl) ?_
              exact W.dret hx hb hr (fun t ht hW => ⟨⟨r49, s52, rfl, hq, by rw [ht]; exact hP, va_K.moved hW.alike hK, hN.warm hW⟩, hS.F ht⟩) hS.2.2 d_WK_call_259
            · have hq := hq.1 c39
              refine lv_dconst0 hx hb d_WK_call_123 ?_
              exact W.dret hx hb hr (fun t ht hW => ⟨⟨FP.dconst0, s38, rfl, hq, by rw [ht]; exact hP, va_K.moved hW.alike hK, hN.warm hW⟩, hS.F ht⟩) hS.2.2 d_WK_call_124
      · have hq := hq.2 c9
        refine lv_dconst0 hx hb d_WK_call_71 ?_
        exact W.dret hx hb hr (fun t ht hW => ⟨⟨FP.dconst0, s8, rfl, hq, by rw [ht]; exact hP, va_K.moved hW.alike hK, hN.warm hW⟩, hS.F ht⟩) hS.2.2 d_WK_call_72
    · have hq := hq.2 c6
      refine lv_aload_n hx hb d_WK_call_41 rfl (lv_at hl 1 rfl) ?_
      refine lv_aload_n hx hb d_WK_call_42 rfl (lv_at hl 1 rfl) ?_
      refine cw_get (C := R_WK) (T := F_WK) (N := 13) (v := .ref (ad 1)) hx hb hts (in_WK _) hown hK hP 12 (by decide) rfl rfl 5 (by decide) (ht _ wC_192) rfl d_WK_call_43 ?_
      refine cw_get (C := R_PR) (T := F_PR) (N := 8) (v := .ref (ad 4)) hx hb hts (in_PR _) hown hK hP 1 (by decide) rfl rfl 2 (by decide) (ht _ wC_85) rfl d_WK_call_46 ?_
      refine lv_iload_n hx hb d_WK_call_49 rfl (lv_at hl 2 rfl) ?_
      refine cw_iald hx hb hK hP 4 (by decide) rfl 0 rfl hq.1 d_WK_call_50 ?_
      have hq := hq.2
      refine lv_aload_n hx hb d_WK_call_51 rfl (lv_at hl 3 rfl) ?_
      refine lv_iload_n hx hb d_WK_call_52 rfl (lv_at hl 4 rfl) ?_
      refine lv_iconst (v := 1) hx hb d_WK_call_53 (by decide) ?_
      refine lv_iadd hx hb d_WK_call_54 ?_
      refine va_calld (va_runV (As := [.int (gA s5 2 p1.toNatClampNeg), .ref (ad (15 + g2)), .int (p3 + 1)]) (rest := []) ⟨hx, hb, hml, hown, hts⟩ (hV hq) (cwV 3 hts (good_V wC_439 wC_441 wC_2 wC_48 wC_442) rfl rfl rfl (by decide +kernel) ⟨(show fV + 1 ≤ fV + 1 by omega), (show 8 + (5 + 11) + lV ≤ lV + 24 by omega)⟩) ⟨cP_blind, va_recv hK hP (ci := 4) (q0 := 12) rfl (wd_at (by decide) rfl), fun U hU hW => ⟨rfl, by rw [hU]; exact hP, va_K.moved hW.alike hK, hN.warm hW⟩⟩ rfl rfl hl.1 rfl (lv_room (Nat.le_of_ble_eq_true rfl)) d_WK_call_55 ⟨Nat.le_of_ble_eq_true rfl, Nat.le_of_ble_eq_true rfl⟩) hS (fun q _ h => h) (fun q h => h) (fun r53 s54 t H locs ht0 hvm hq hB hz1 hk1 hS => ?_)
      obtain ⟨hP, -, -⟩ := hB
      rw [ht0] at hP
      refine lv_goto (tgt := 62) hx hb d_WK_call_58 (by decide) ?_
      refine lv_dstore (lv' := [(5, .double r53), (4, .int (gA s2 1 p1.toNatClampNeg)), (0, .ref (ad 12)), (1, .int p1), (2, .ref (ad (15 + g2))), (3, .int p3)]) hx hb d_WK_call_62 hl (by decide) rfl (fun ls hl => ?_)
      refine lv_aload_n hx hb d_WK_call_64 rfl (lv_at hl 2 rfl) ?_
      refine va_calli (va_runV (As := []) (rest := []) ⟨hx, hb, hml, hown, hts⟩ (c_WK_leaving (D := D) (cs := cs) hi hq) (cwV 0 hts (good_V wC_452 wC_454 wC_5 wC_48 wC_455) rfl rfl rfl (by decide +kernel) ⟨(show 0 + 1 ≤ fV + 1 by omega), (show 8 + (1 + 11) + 0 ≤ lV + 24 by omega)⟩) ⟨cP_blind, va_recv hK hP (ci := 4) (q0 := 12) rfl (wd_at (by decide) rfl), fun U hU hW => ⟨rfl, by rw [hU]; exact hP, va_K.moved hW.alike hK, hN.warm hW⟩⟩ rfl rfl hl.1 rfl (lv_room (Nat.le_of_ble_eq_true rfl)) d_WK_call_65 ⟨Nat.le_of_ble_eq_true rfl, Nat.le_of_ble_eq_true rfl⟩) hS (fun q _ h => h) (fun q h => h) (fun r55 s56 t H locs ht0 hvm hq hB hz1 hk1 hS => ?_)
      obtain ⟨hP, -, -⟩ := hB
      rw [ht0] at hP
      refine lv_if_eq (tgt := 73) hx hb d_WK_call_68 (by decide) (fun c57 => ?_) (fun c57 => ?_)
      · have hq := hq.1 c57
        refine lv_aload_n hx hb d_WK_call_73 rfl (lv_at hl 2 rfl) ?_
        refine cw_get (C := R_WK) (T := F_WK) (N := 13) (v := .ref (ad 1)) hx hb hts (in_WK _) hown hK hP 12 (by decide) rfl rfl 5 (by decide) (ht _ wC_192) rfl d_WK_call_74 ?_
        refine lv_iload hx hb d_WK_call_77 (lv_at hl 1 rfl) ?_
        refine lv_iconst (v := 1) hx hb d_WK_call_79 (by decide) ?_
        refine va_calli (va_runV (As := [.int (gA s2 1 p1.toNatClampNeg), .int 1]) (rest := []) ⟨hx, hb, hml, hown, hts⟩ (c_PR_isByValue (D := D) (cs := cs) hi hq) (cwV 2 hts (good_V wC_491 wC_492 wC_493 wC_45 wC_494) rfl rfl rfl (by decide +kernel) ⟨(show 0 + 1 ≤ fV + 1 by omega), (show 8 + (3 + 11) + 0 ≤ lV + 24 by omega)⟩) ⟨cP_blind, va_recv hK hP (ci := 2) (q0 := 1) rfl (wd_at (by decide) rfl), fun U hU hW => ⟨rfl, by rw [hU]; exact hP, va_K.moved hW.alike hK, hN.warm hW⟩⟩ rfl rfl hl.1 rfl (lv_room (Nat.le_of_ble_eq_true rfl)) d_WK_call_80 ⟨Nat.le_of_ble_eq_true rfl, Nat.le_of_ble_eq_true rfl⟩) hS (fun q _ h => h) (fun q h => h) (fun r58 s59 t H locs ht0 hvm hq hB hz1 hk1 hS => ?_)
        obtain ⟨hP, -, -⟩ := hB
        rw [ht0] at hP
        refine lv_if_eq (tgt := 106) hx hb d_WK_call_83 (by decide) (fun c60 => ?_) (fun c60 => ?_)
        · have hq := hq.1 c60
          refine lv_dconst0 hx hb d_WK_call_106 ?_
          refine lv_dstore (lv' := [(7, .double FP.dconst0), (5, .double r53), (4, .int (gA s2 1 p1.toNatClampNeg)), (0, .ref (ad 12)), (1, .int p1), (2, .ref (ad (15 + g2))), (3, .int p3)]) hx hb d_WK_call_107 hl (by decide) rfl (fun ls hl => ?_)
          refine lv_aload_n hx hb d_WK_call_109 rfl (lv_at hl 3 rfl) ?_
          refine va_calli (va_runV (As := []) (rest := []) ⟨hx, hb, hml, hown, hts⟩ (c_WK_leaving (D := D) (cs := cs) hi hq) (cwV 0 hts (good_V wC_452 wC_454 wC_5 wC_48 wC_455) rfl rfl rfl (by decide +kernel) ⟨(show 0 + 1 ≤ fV + 1 by omega), (show 8 + (1 + 11) + 0 ≤ lV + 24 by omega)⟩) ⟨cP_blind, va_recv hK hP (ci := 4) (q0 := 12) rfl (wd_at (by decide) rfl), fun U hU hW => ⟨rfl, by rw [hU]; exact hP, va_K.moved hW.alike hK, hN.warm hW⟩⟩ rfl rfl hl.1 rfl (lv_room (Nat.le_of_ble_eq_true rfl)) d_WK_call_110 ⟨Nat.le_of_ble_eq_true rfl, Nat.le_of_ble_eq_true rfl⟩) hS (fun q _ h => h) (fun q h => h) (fun r61 s62 t H locs ht0 hvm hq hB hz1 hk1 hS => ?_)
          obtain ⟨hP, -, -⟩ := hB
          rw [ht0] at hP
          refine lv_if_ne (tgt := 123) hx hb d_WK_call_113 (by decide) (fun c63 => ?_) (fun c63 => ?_)
          · have hq := hq.2 c63
            refine lv_dconst0 hx hb d_WK_call_123 ?_
            exact W.dret hx hb hr (fun t ht hW => ⟨⟨FP.dconst0, s62, rfl, hq, by rw [ht]; exact hP, va_K.moved hW.alike hK, hN.warm hW⟩, hS.F ht⟩) hS.2.2 d_WK_call_124
          · have hq := hq.1 c63
            refine lv_aload_n hx hb d_WK_call_116 rfl (lv_at hl 3 rfl) ?_
            refine va_calli (va_runV (As := []) (rest := []) ⟨hx, hb, hml, hown, hts⟩ (c_WK_mayEnter (D := D) (cs := cs) hi hq) (cwV 0 hts (good_V wC_472 wC_474 wC_8 wC_48 wC_475) rfl rfl rfl (by decide +kernel) ⟨(show 1 + 1 ≤ fV + 1 by omega), (show 8 + (1 + 11) + 32 ≤ lV + 24 by omega)⟩) ⟨cP_blind, va_recv hK hP (ci := 4) (q0 := 12) rfl (wd_at (by decide) rfl), fun U hU hW => ⟨rfl, by rw [hU]; exact hP, va_K.moved hW.alike hK, hN.warm hW⟩⟩ rfl rfl hl.1 rfl (lv_room (Nat.le_of_ble_eq_true rfl)) d_WK_call_117 ⟨Nat.le_of_ble_eq_true rfl, Nat.le_of_ble_eq_true rfl⟩) hS (fun q _ h => h) (fun q h => h) (fun r64 s65 t H locs ht0 hvm hq hB hz1 hk1 hS => ?_)
            obtain ⟨hP, -, -⟩ := hB
            rw [ht0] at hP
            refine lv_if_ne (tgt := 125) hx hb d_WK_call_120 (by decide) (fun c66 => ?_) (fun c66 => ?_)
            · have hq := hq.2 c66
              refine lv_aload_n hx hb d_WK_call_125 rfl (lv_at hl 3 rfl) ?_
              refine cw_get (C := R_WK) (T := F_WK) (N := 13) (v := .ref (ad 14)) hx hb hts (in_WK _) hown hK hP 12 (by decide) rfl rfl 8 (by decide) (ht _ wC_195) rfl d_WK_call_126 ?_
              refine lv_aload_n hx hb d_WK_call_129 rfl (lv_at hl 3 rfl) ?_
              refine cw_get (C := R_WK) (T := F_WK) (N := 13) (v := .int (gI s65 5)) hx hb hts (in_WK _) hown hK hP 12 (by decide) rfl rfl 10 (by decide) (ht _ wC_197) rfl d_WK_call_130 ?_
              refine cw_aldq hx hb hK hP 14 (by decide) rfl 2 rfl hq.1 d_WK_call_133 ?_
              have hh67 : (gI s65 5).toNatClampNeg < 9 := Nat.lt_trans (vp_lt hq.1) (by decide)
              have hq := hq.2
              refine lv_astore (lv' := [(9, .ref (ad (15 + ((gI s65 5).toNatClampNeg)))), (7, .double FP.dconst0), (5, .double r53), (4, .int (gA s2 1 p1.toNatClampNeg)), (0, .ref (ad 12)), (1, .int p1), (2, .ref (ad (15 + g2))), (3, .int p3)]) hx hb d_WK_call_134 hl (by decide) rfl (fun ls hl => ?_)
              refine lv_aload hx hb d_WK_call_136 (lv_at hl 0 rfl) ?_
              refine lv_aload_n hx hb d_WK_call_138 rfl (lv_at hl 6 rfl) ?_
              refine lv_aload_n hx hb d_WK_call_139 rfl (lv_at hl 4 rfl) ?_
              refine cw_get (C := R_WK) (T := F_WK) (N := 13) (v := .ref (ad 1)) hx hb hts (in_WK _) hown hK hP 12 (by decide) rfl rfl 5 (by decide) (ht _ wC_192) rfl d_WK_call_140 ?_
              refine cw_get (C := R_PR) (T := F_PR) (N := 8) (v := .ref (ad 7)) hx hb hts (in_PR _) hown hK hP 1 (by decide) rfl rfl 6 (by decide) (ht _ wC_95) rfl d_WK_call_143 ?_
              refine lv_iload hx hb d_WK_call_146 (lv_at hl 3 rfl) ?_
              refine cw_iald hx hb hK hP 7 (by decide) rfl 0 rfl hq.1 d_WK_call_148 ?_
              have hq := hq.2
              refine lv_aload_n hx hb d_WK_call_149 rfl (lv_at hl 4 rfl) ?_
              refine cw_get (C := R_WK) (T := F_WK) (N := 13) (v := .ref (ad 1)) hx hb hts (in_WK _) hown hK hP 12 (by decide) rfl rfl 5 (by decide) (ht _ wC_192) rfl d_WK_call_150 ?_
              refine cw_get (C := R_PR) (T := F_PR) (N := 8) (v := .ref (ad 8)) hx hb hts (in_PR _) hown hK hP 1 (by decide) rfl rfl 7 (by decide) (ht _ wC_97) rfl d_WK_call_153 ?_
              refine lv_iload hx hb d_WK_call_156 (lv_at hl 3 rfl) ?_
              refine cw_iald hx hb hK hP 8 (by decide) rfl 0 rfl hq.1 d_WK_call_158 ?_
              have hq := hq.2
              refine va_callv (va_runV (As := [.ref (ad (15 + g2)), .int (gA s65 5 ((gA s2 1 p1.toNatClampNeg).toNatClampNeg)), .int (gA s65 6 ((gA s2 1 p1.toNatClampNeg).toNatClampNeg))]) (rest := []) ⟨hx, hb, hml, hown, hts⟩ (c_EN_begin (D := D) (cs := cs) hi hq) (cwV 3 hts (good_V wC_495 wC_496 wC_497 wC_49 wC_498) rfl rfl rfl (by decide +kernel) ⟨(show 1 + 1 ≤ fV + 1 by omega), (show 8 + (4 + 11) + 24 ≤ lV + 24 by omega)⟩) ⟨cP_blind, va_recv hK hP (ci := 1) (q0 := (15 + ((gI s65 5).toNatClampNeg))) rfl (wd_at (by omega) (ct_o hh67)), fun U hU hW => ⟨rfl, by rw [hU]; exact hP, va_K.moved hW.alike hK, hN.warm hW⟩⟩ rfl rfl hl.1 rfl (lv_room (Nat.le_of_ble_eq_true rfl)) d_WK_call_159 ⟨Nat.le_of_ble_eq_true rfl, Nat.le_of_ble_eq_true rfl⟩) hS (fun q _ h => h) (fun q h => h) (fun s69 t H locs ht0 hvm hq hB hz1 hk1 hS => ?_)
              obtain ⟨hP, -, -⟩ := hB
              rw [ht0] at hP
              refine lv_aload hx hb d_WK_call_162 (lv_at hl 0 rfl) ?_
              refine lv_iconst (v := 0) hx hb d_WK_call_164 (by decide) ?_
              refine lv_aload_n hx hb d_WK_call_165 rfl (lv_at hl 4 rfl) ?_
              refine cw_get (C := R_WK) (T := F_WK) (N := 13) (v := .ref (ad 1)) hx hb hts (in_WK _) hown hK hP 12 (by decide) rfl rfl 5 (by decide) (ht _ wC_192) rfl d_WK_call_166 ?_
              refine cw_get (C := R_PR) (T := F_PR) (N := 8) (v := .ref (ad 4)) hx hb hts (in_PR _) hown hK hP 1 (by decide) rfl rfl 2 (by decide) (ht _ wC_85) rfl d_WK_call_169 ?_
              refine lv_iload_n hx hb d_WK_call_172 rfl (lv_at hl 5 rfl) ?_
              refine cw_iald hx hb hK hP 4 (by decide) rfl 0 rfl hq.1 d_WK_call_173 ?_
              have hq := hq.2
              refine lv_dload hx hb d_WK_call_174 (lv_at hl 2 rfl) ?_
              refine va_callv (va_runV (As := [.int 0, .int (gA s69 2 p1.toNatClampNeg), .double r53]) (rest := []) ⟨hx, hb, hml, hown, hts⟩ (c_EN_give (D := D) (cs := cs) hi hq) (cwV 3 hts (good_V wC_500 wC_501 wC_502 wC_49 wC_503) rfl rfl rfl (by decide +kernel) ⟨(show 0 + 1 ≤ fV + 1 by omega), (show 8 + (5 + 11) + 0 ≤ lV + 24 by omega)⟩) ⟨cP_blind, va_recv hK hP (ci := 1) (q0 := (15 + ((gI s65 5).toNatClampNeg))) rfl (wd_at (by omega) (ct_o hh67)), fun U hU hW => ⟨rfl, by rw [hU]; exact hP, va_K.moved hW.alike hK, hN.warm hW⟩⟩ rfl rfl hl.1 rfl (lv_room (Nat.le_of_ble_eq_true rfl)) d_WK_call_176 ⟨Nat.le_of_ble_eq_true rfl, Nat.le_of_ble_eq_true rfl⟩) hS (fun q _ h => h) (fun q h => h) (fun s71 t H locs ht0 hvm hq hB hz1 hk1 hS => ?_)
              obtain ⟨hP, -, -⟩ := hB
              rw [ht0] at hP
              refine lv_aload hx hb d_WK_call_179 (lv_at hl 0 rfl) ?_
              refine lv_iconst (v := 1) hx hb d_WK_call_181 (by decide) ?_
              refine lv_aload_n hx hb d_WK_call_182 rfl (lv_at hl 4 rfl) ?_
              refine cw_get (C := R_WK) (T := F_WK) (N := 13) (v := .ref (ad 1)) hx hb hts (in_WK _) hown hK hP 12 (by decide) rfl rfl 5 (by decide) (ht _ wC_192) rfl d_WK_call_183 ?_
              refine cw_get (C := R_PR) (T := F_PR) (N := 8) (v := .ref (ad 5)) hx hb hts (in_PR _) hown hK hP 1 (by decide) rfl rfl 3 (by decide) (ht _ wC_89) rfl d_WK_call_186 ?_
              refine lv_iload_n hx hb d_WK_call_189 rfl (lv_at hl 5 rfl) ?_
              refine cw_iald hx hb hK hP 5 (by decide) rfl 0 rfl hq.1 d_WK_call_190 ?_
              have hq := hq.2
              refine lv_dload hx hb d_WK_call_191 (lv_at hl 1 rfl) ?_
              refine va_callv (va_runV (As := [.int 1, .int (gA s71 3 p1.toNatClampNeg), .double FP.dconst0]) (rest := []) ⟨hx, hb, hml, hown, hts⟩ (c_EN_give (D := D) (cs := cs) hi hq) (cwV 3 hts (good_V wC_500 wC_501 wC_502 wC_49 wC_503) rfl rfl rfl (by decide +kernel) ⟨(show 0 + 1 ≤ fV + 1 by omega), (show 8 + (5 + 11) + 0 ≤ lV + 24 by omega)⟩) ⟨cP_blind, va_recv hK hP (ci := 1) (q0 := (15 + ((gI s65 5).toNatClampNeg))) rfl (wd_at (by omega) (ct_o hh67)), fun U hU hW => ⟨rfl, by rw [hU]; exact hP, va_K.moved hW.alike hK, hN.warm hW⟩⟩ rfl rfl hl.1 rfl (lv_room (Nat.le_of_ble_eq_true rfl)) d_WK_call_193 ⟨Nat.le_of_ble_eq_true rfl, Nat.le_of_ble_eq_true rfl⟩) hS (fun q _ h => h) (fun q h => h) (fun s73 t H locs ht0 hvm hq hB hz1 hk1 hS => ?_)
              obtain ⟨hP, -, -⟩ := hB
              rw [ht0] at hP
              refine lv_aload_n hx hb d_WK_call_196 rfl (lv_at hl 4 rfl) ?_
              refine lv_dup hx hb d_WK_call_197 rfl ?_
              refine cw_get (C := R_WK) (T := F_WK) (N := 13) (v := .int (gI s73 5)) hx hb hts (in_WK _) hown hK hP 12 (by decide) rfl rfl 10 (by decide) (ht _ wC_197) rfl d_WK_call_198 ?_
              refine lv_iconst (v := 1) hx hb d_WK_call_201 (by decide) ?_
              refine lv_iadd hx hb d_WK_call_202 ?_
              refine cw_put (C := R_WK) (T := F_WK) (N := 13) (ty := .int) (v := .int ((gI s73 5) + 1)) hx hb hts (in_WK _) t_WK tok_WK n_WK hown hK hP hi hS 12 (by decide) rfl rfl 10 (by decide) (ht _ wC_197) rfl (by decide +kernel) rfl rfl (Nat.le_of_ble_eq_true rfl) up_WK_openCalls d_WK_call_203 (fun H locs hP hS => ?_)
              obtain ⟨s74, e_s74⟩ : ∃ z, z = sI s73 5 ((gI s73 5) + 1) := ⟨_, rfl⟩
              rw [← e_s74] at hP
              have hq := hq s74 e_s74
              refine lv_aload_n hx hb d_WK_call_206 rfl (lv_at hl 4 rfl) ?_
              refine lv_dup hx hb d_WK_call_207 rfl ?_
              refine cw_get (C := R_WK) (T := F_WK) (N := 13) (v := .int (gI s74 2)) hx hb hts (in_WK _) hown hK hP 12 (by decide) rfl rfl 2 (by decide) (ht _ wC_186) rfl d_WK_call_208 ?_
              refine lv_iconst (v := 1) hx hb d_WK_call_211 (by decide) ?_
              refine lv_iadd hx hb d_WK_call_212 ?_
              refine cw_put (C := R_WK) (T := F_WK) (N := 13) (ty := .int) (v := .int ((gI s74 2) + 1)) hx hb hts (in_WK _) t_WK tok_WK n_WK hown hK hP hi hS 12 (by decide) rfl rfl 2 (by decide) (ht _ wC_186) rfl (by decide +kernel) rfl rfl (Nat.le_of_ble_eq_true rfl) up_WK_bodiesBegun d_WK_call_213 (fun H locs hP hS => ?_)
              obtain ⟨s75, e_s75⟩ : ∃ z, z = sI s74 2 ((gI s74 2) + 1) := ⟨_, rfl⟩
              rw [← e_s75] at hP
              have hq := hq s75 e_s75
              refine lv_aload_n hx hb d_WK_call_216 rfl (lv_at hl 4 rfl) ?_
              refine lv_aload_n hx hb d_WK_call_217 rfl (lv_at hl 4 rfl) ?_
              refine cw_get (C := R_WK) (T := F_WK) (N := 13) (v := .ref (ad 1)) hx hb hts (in_WK _) hown hK hP 12 (by decide) rfl rfl 5 (by decide) (ht _ wC_192) rfl d_WK_call_218 ?_
              refine cw_get (C := R_PR) (T := F_PR) (N := 8) (v := .ref (ad 6)) hx hb hts (in_PR _) hown hK hP 1 (by decide) rfl rfl 5 (by decide) (ht _ wC_93) rfl d_WK_call_221 ?_
              refine lv_iload hx hb d_WK_call_224 (lv_at hl 3 rfl) ?_
              refine cw_iald hx hb hK hP 6 (by decide) rfl 0 rfl hq.1 d_WK_call_226 ?_
              have hq := hq.2
              refine lv_aload hx hb d_WK_call_227 (lv_at hl 0 rfl) ?_
              refine lv_iload_n hx hb d_WK_call_229 rfl (lv_at hl 7 rfl) ?_
              refine lv_iconst (v := 1) hx hb d_WK_call_230 (by decide) ?_
              refine lv_iadd hx hb d_WK_call_231 ?_
              refine va_calld (va_runV (As := [.int (gA s75 4 ((gA s2 1 p1.toNatClampNeg).toNatClampNeg)), .ref (ad (15 + ((gI s65 5).toNatClampNeg))), .int (p3 + 1)]) (rest := []) ⟨hx, hb, hml, hown, hts⟩ (hV hq) (cwV 3 hts (good_V wC_439 wC_441 wC_2 wC_48 wC_442) rfl rfl rfl (by decide +kernel) ⟨(show fV + 1 ≤ fV + 1 by omega), (show 8 + (5 + 11) + lV ≤ lV + 24 by omega)⟩) ⟨cP_blind, va_recv hK hP (ci := 4) (q0 := 12) rfl (wd_at (by decide) rfl), fun U hU hW => ⟨rfl, by rw [hU]; exact hP, va_K.moved hW.alike hK, hN.warm hW⟩⟩ rfl rfl hl.1 rfl (lv_room (Nat.le_of_ble_eq_true rfl)) d_WK_call_232 ⟨Nat.le_of_ble_eq_true rfl, Nat.le_of_ble_eq_true rfl⟩) hS (fun q _ h => h) (fun q h => h) (fun r76 s77 t H locs ht0 hvm hq hB hz1 hk1 hS => ?_)
              obtain ⟨hP, -, -⟩ := hB
              rw [ht0] at hP
              refine lv_dstore (lv' := [(10, .double r76), (9, .ref (ad (15 + ((gI s65 5).toNatClampNeg)))), (7, .double FP.dconst0), (5, .double r53), (4, .int (gA s2 1 p1.toNatClampNeg)), (0, .ref (ad 12)), (1, .int p1), (2, .ref (ad (15 + g2))), (3, .int p3)]) hx hb d_WK_call_235 hl (by decide) rfl (fun ls hl => ?_)
              refine lv_aload_n hx hb d_WK_call_237 rfl (lv_at hl 5 rfl) ?_
              refine lv_dup hx hb d_WK_call_238 rfl ?_
              refine cw_get (C := R_WK) (T := F_WK) (N := 13) (v := .int (gI s77 5)) hx hb hts (in_WK _) hown hK hP 12 (by decide) rfl rfl 10 (by decide) (ht _ wC_197) rfl d_WK_call_239 ?_
              refine lv_iconst (v := 1) hx hb d_WK_call_242 (by decide) ?_
              refine lv_isub hx hb d_WK_call_243 ?_
              refine cw_put (C := R_WK) (T := F_WK) (N := 13) (ty := .int) (v := .int ((gI s77 5) - 1)) hx hb hts (in_WK _) t_WK tok_WK n_WK hown hK hP hi hS 12 (by decide) rfl rfl 10 (by decide) (ht _ wC_197) rfl (by decide +kernel) rfl rfl (Nat.le_of_ble_eq_true rfl) up_WK_openCalls d_WK_call_244 (fun H locs hP hS => ?_)
              obtain ⟨s78, e_s78⟩ : ∃ z, z = sI s77 5 ((gI s77 5) - 1) := ⟨_, rfl⟩
              rw [← e_s78] at hP
              have hq := hq s78 e_s78
              refine lv_aload_n hx hb d_WK_call_247 rfl (lv_at hl 5 rfl) ?_
              refine lv_dup hx hb d_WK_call_248 rfl ?_
              refine cw_get (C := R_WK) (T := F_WK) (N := 13) (v := .int (gI s78 6)) hx hb hts (in_WK _) hown hK hP 12 (by decide) rfl rfl 11 (by decide) (ht _ wC_198) rfl d_WK_call_249 ?_
              refine lv_iconst (v := 1) hx hb d_WK_call_252 (by decide) ?_
              refine lv_isub hx hb d_WK_call_253 ?_
              refine cw_put (C := R_WK) (T := F_WK) (N := 13) (ty := .int) (v := .int ((gI s78 6) - 1)) hx hb hts (in_WK _) t_WK tok_WK n_WK hown hK hP hi hS 12 (by decide) rfl rfl 11 (by decide) (ht _ wC_198) rfl (by decide +kernel) rfl rfl (Nat.le_of_ble_eq_true rfl) up_WK_openEnvironments d_WK_call_254 (fun H locs hP hS => ?_)
              obtain ⟨s79, e_s79⟩ : ∃ z, z = sI s78 6 ((gI s78 6) - 1) := ⟨_, rfl⟩
              rw [← e_s79] at hP
              have hq := hq s79 e_s79
              refine lv_dload hx hb d_WK_call_257 (lv_at hl 0 rfl) ?_
              exact W.dret hx hb hr (fun t ht hW => ⟨⟨r76, s79, rfl, hq, by rw [ht]; exact hP, va_K.moved hW.alike hK, hN.warm hW⟩, hS.F ht⟩) hS.2.2 d_WK_call_259
            · have hq := hq.1 c66
              refine lv_dconst0 hx hb d_WK_call_123 ?_
              exact W.dret hx hb hr (fun t ht hW => ⟨⟨FP.dconst0, s65, rfl, hq, by rw [ht]; exact hP, va_K.moved hW.alike hK, hN.warm hW⟩, hS.F ht⟩) hS.2.2 d_WK_call_124
        · have hq := hq.2 c60
          refine lv_aload_n hx hb d_WK_call_86 rfl (lv_at hl 2 rfl) ?_
          refine lv_aload_n hx hb d_WK_call_87 rfl (lv_at hl 2 rfl) ?_
          refine cw_get (C := R_WK) (T := F_WK) (N := 13) (v := .ref (ad 1)) hx hb hts (in_WK _) hown hK hP 12 (by decide) rfl rfl 5 (by decide) (ht _ wC_192) rfl d_WK_call_88 ?_
          refine cw_get (C := R_PR) (T := F_PR) (N := 8) (v := .ref (ad 5)) hx hb hts (in_PR _) hown hK hP 1 (by decide) rfl rfl 3 (by decide) (ht _ wC_89) rfl d_WK_call_91 ?_
          refine lv_iload_n hx hb d_WK_call_94 rfl (lv_at hl 3 rfl) ?_
          refine cw_iald hx hb hK hP 5 (by decide) rfl 0 rfl hq.1 d_WK_call_95 ?_
          have hq := hq.2
          refine lv_aload_n hx hb d_WK_call_96 rfl (lv_at hl 4 rfl) ?_
          refine lv_iload_n hx hb d_WK_call_97 rfl (lv_at hl 5 rfl) ?_
          refine lv_iconst (v := 1) hx hb d_WK_call_98 (by decide) ?_
          refine lv_iadd hx hb d_WK_call_99 ?_
          refine va_calld (va_runV (As := [.int (gA s59 3 p1.toNatClampNeg), .ref (ad (15 + g2)), .int (p3 + 1)]) (rest := []) ⟨hx, hb, hml, hown, hts⟩ (hV hq) (cwV 3 hts (good_V wC_439 wC_441 wC_2 wC_48 wC_442) rfl rfl rfl (by decide +kernel) ⟨(show fV + 1 ≤ fV + 1 by omega), (show 8 + (5 + 11) + lV ≤ lV + 24 by omega)⟩) ⟨cP_blind, va_recv hK hP (ci := 4) (q0 := 12) rfl (wd_at (by decide) rfl), fun U hU hW => ⟨rfl, by rw [hU]; exact hP, va_K.moved hW.alike hK, hN.warm hW⟩⟩ rfl rfl hl.1 rfl (lv_room (Nat.le_of_ble_eq_true rfl)) d_WK_call_100 ⟨Nat.le_of_ble_eq_true rfl, Nat.le_of_ble_eq_true rfl⟩) hS (fun q _ h => h) (fun q h => h) (fun r80 s81 t H locs ht0 hvm hq hB hz1 hk1 hS => ?_)
          obtain ⟨hP, -, -⟩ := hB
          rw [ht0] at hP
          refine lv_goto (tgt := 107) hx hb d_WK_call_103 (by decide) ?_
          refine lv_dstore (lv' := [(7, .double r80), (5, .double r53), (4, .int (gA s2 1 p1.toNatClampNeg)), (0, .ref (ad 12)), (1, .int p1), (2, .ref (ad (15 + g2))), (3, .int p3)]) hx hb d_WK_call_107 hl (by decide) rfl (fun ls hl => ?_)
          refine lv_aload_n hx hb d_WK_call_109 rfl (lv_at hl 3 rfl) ?_
          refine va_calli (va_runV (As := []) (rest := []) ⟨hx, hb, hml, hown, hts⟩ (c_WK_leaving (D := D) (cs := cs) hi hq) (cwV 0 hts (good_V wC_452 wC_454 wC_5 wC_48 wC_455) rfl rfl rfl (by decide +kernel) ⟨(show 0 + 1 ≤ fV + 1 by omega), (show 8 + (1 + 11) + 0 ≤ lV + 24 by omega)⟩) ⟨cP_blind, va_recv hK hP (ci := 4) (q0 := 12) rfl (wd_at (by decide) rfl), fun U hU hW => ⟨rfl, by rw [hU]; exact hP, va_K.moved hW.alike hK, hN.warm hW⟩⟩ rfl rfl hl.1 rfl (lv_room (Nat.le_of_ble_eq_true rfl)) d_WK_call_110 ⟨Nat.le_of_ble_eq_true rfl, Nat.le_of_ble_eq_true rfl⟩) hS (fun q _ h => h) (fun q h => h) (fun r82 s83 t H locs ht0 hvm hq hB hz1 hk1 hS => ?_)
          obtain ⟨hP, -, -⟩ := hB
          rw [ht0] at hP
          refine lv_if_ne (tgt := 123) hx hb d_WK_call_113 (by decide) (fun c84 => ?_) (fun c84 => ?_)
          · have hq := hq.2 c84
            refine lv_dconst0 hx hb d_WK_call_123 ?_
            exact W.dret hx hb hr (fun t ht hW => ⟨⟨FP.dconst0, s83, rfl, hq, by rw [ht]; exact hP, va_K.moved hW.alike hK, hN.warm hW⟩, hS.F ht⟩) hS.2.2 d_WK_call_124
          · have hq := hq.1 c84
            refine lv_aload_n hx hb d_WK_call_116 rfl (lv_at hl 3 rfl) ?_
            refine va_calli (va_runV (As := []) (rest := []) ⟨hx, hb, hml, hown, hts⟩ (c_WK_mayEnter (D := D) (cs := cs) hi hq) (cwV 0 hts (good_V wC_472 wC_474 wC_8 wC_48 wC_475) rfl rfl rfl (by decide +kernel) ⟨(show 1 + 1 ≤ fV + 1 by omega), (show 8 + (1 + 11) + 32 ≤ lV + 24 by omega)⟩) ⟨cP_blind, va_recv hK hP (ci := 4) (q0 := 12) rfl (wd_at (by decide) rfl), fun U hU hW => ⟨rfl, by rw [hU]; exact hP, va_K.moved hW.alike hK, hN.warm hW⟩⟩ rfl rfl hl.1 rfl (lv_room (Nat.le_of_ble_eq_true rfl)) d_WK_call_117 ⟨Nat.le_of_ble_eq_true rfl, Nat.le_of_ble_eq_true rfl⟩) hS (fun q _ h => h) (fun q h => h) (fun r85 s86 t H locs ht0 hvm hq hB hz1 hk1 hS => ?_)
            obtain ⟨hP, -, -⟩ := hB
            rw [ht0] at hP
            refine lv_if_ne (tgt := 125) hx hb d_WK_call_120 (by decide) (fun c87 => ?_) (fun c87 => ?_)
            · have hq := hq.2 c87
              refine lv_aload_n hx hb d_WK_call_125 rfl (lv_at hl 3 rfl) ?_
              refine cw_get (C := R_WK) (T := F_WK) (N := 13) (v := .ref (ad 14)) hx hb hts (in_WK _) hown hK hP 12 (by decide) rfl rfl 8 (by decide) (ht _ wC_195) rfl d_WK_call_126 ?_
              refine lv_aload_n hx hb d_WK_call_129 rfl (lv_at hl 3 rfl) ?_
              refine cw_get (C := R_WK) (T := F_WK) (N := 13) (v := .int (gI s86 5)) hx hb hts (in_WK _) hown hK hP 12 (by decide) rfl rfl 10 (by decide) (ht _ wC_197) rfl d_WK_call_130 ?_
              refine cw_aldq hx hb hK hP 14 (by decide) rfl 2 rfl hq.1 d_WK_call_133 ?_
              have hh88 : (gI s86 5).toNatClampNeg < 9 := Nat.lt_trans (vp_lt hq.1) (by decide)
              have hq := hq.2
              refine lv_astore (lv' := [(9, .ref (ad (15 + ((gI s86 5).toNatClampNeg)))), (7, .double r80), (5, .double r53), (4, .int (gA s2 1 p1.toNatClampNeg)), (0, .ref (ad 12)), (1, .int p1), (2, .ref (ad (15 + g2))), (3, .int p3)]) hx hb d_WK_call_134 hl (by decide) rfl (fun ls hl => ?_)
              refine lv_aload hx hb d_WK_call_136 (lv_at hl 0 rfl) ?_
              refine lv_aload_n hx hb d_WK_call_138 rfl (lv_at hl 6 rfl) ?_
              refine lv_aload_n hx hb d_WK_call_139 rfl (lv_at hl 4 rfl) ?_
              refine cw_get (C := R_WK) (T := F_WK) (N := 13) (v := .ref (ad 1)) hx hb hts (in_WK _) hown hK hP 12 (by decide) rfl rfl 5 (by decide) (ht _ wC_192) rfl d_WK_call_140 ?_
              refine cw_get (C := R_PR) (T := F_PR) (N := 8) (v := .ref (ad 7)) hx hb hts (in_PR _) hown hK hP 1 (by decide) rfl rfl 6 (by decide) (ht _ wC_95) rfl d_WK_call_143 ?_
              refine lv_iload hx hb d_WK_call_146 (lv_at hl 3 rfl) ?_
              refine cw_iald hx hb hK hP 7 (by decide) rfl 0 rfl hq.1 d_WK_call_148 ?_
              have hq := hq.2
              refine lv_aload_n hx hb d_WK_call_149 rfl (lv_at hl 4 rfl) ?_
              refine cw_get (C := R_WK) (T := F_WK) (N := 13) (v := .ref (ad 1)) hx hb hts (in_WK _) hown hK hP 12 (by decide) rfl rfl 5 (by decide) (ht _ wC_192) rfl d_WK_call_150 ?_
              refine cw_get (C := R_PR) (T := F_PR) (N := 8) (v := .ref (ad 8)) hx hb hts (in_PR _) hown hK hP 1 (by decide) rfl rfl 7 (by decide) (ht _ wC_97) rfl d_WK_call_153 ?_
              refine lv_iload hx hb d_WK_call_156 (lv_at hl 3 rfl) ?_
              refine cw_iald hx hb hK hP 8 (by decide) rfl 0 rfl hq.1 d_WK_call_158 ?_
              have hq := hq.2
              refine va_callv (va_runV (As := [.ref (ad (15 + g2)), .int (gA s86 5 ((gA s2 1 p1.toNatClampNeg).toNatClampNeg)), .int (gA s86 6 ((gA s2 1 p1.toNatClampNeg).toNatClampNeg))]) (rest := []) ⟨hx, hb, hml, hown, hts⟩ (c_EN_begin (D := D) (cs := cs) hi hq) (cwV 3 hts (good_V wC_495 wC_496 wC_497 wC_49 wC_498) rfl rfl rfl (by decide +kernel) ⟨(show 1 + 1 ≤ fV + 1 by omega), (show 8 + (4 + 11) + 24 ≤ lV + 24 by omega)⟩) ⟨cP_blind, va_recv hK hP (ci := 1) (q0 := (15 + ((gI s86 5).toNatClampNeg))) rfl (wd_at (by omega) (ct_o hh88)), fun U hU hW => ⟨rfl, by rw [hU]; exact hP, va_K.moved hW.alike hK, hN.warm hW⟩⟩ rfl rfl hl.1 rfl (lv_room (Nat.le_of_ble_eq_true rfl)) d_WK_call_159 ⟨Nat.le_of_ble_eq_true rfl, Nat.le_of_ble_eq_true rfl⟩) hS (fun q _ h => h) (fun q h => h) (fun s90 t H locs ht0 hvm hq hB hz1 hk1 hS => ?_)
              obtain ⟨hP, -, -⟩ := hB
              rw [ht0] at hP
              refine lv_aload hx hb d_WK_call_162 (lv_at hl 0 rfl) ?_
              refine lv_iconst (v := 0) hx hb d_WK_call_164 (by decide) ?_
              refine lv_aload_n hx hb d_WK_call_165 rfl (lv_at hl 4 rfl) ?_
              refine cw_get (C := R_WK) (T := F_WK) (N := 13) (v := .ref (ad 1)) hx hb hts (in_WK _) hown hK hP 12 (by decide) rfl rfl 5 (by decide) (ht _ wC_192) rfl d_WK_call_166 ?_
              refine cw_get (C := R_PR) (T := F_PR) (N := 8) (v := .ref (ad 4)) hx hb hts (in_PR _) hown hK hP 1 (by decide) rfl rfl 2 (by decide) (ht _ wC_85) rfl d_WK_call_169 ?_
              refine lv_iload_n hx hb d_WK_call_172 rfl (lv_at hl 5 rfl) ?_
              refine cw_iald hx hb hK hP 4 (by decide) rfl 0 rfl hq.1 d_WK_call_173 ?_
              have hq := hq.2
              refine lv_dload hx hb d_WK_call_174 (lv_at hl 2 rfl) ?_
              refine va_callv (va_runV (As := [.int 0, .int (gA s90 2 p1.toNatClampNeg), .double r53]) (rest := []) ⟨hx, hb, hml, hown, hts⟩ (c_EN_give (D := D) (cs := cs) hi hq) (cwV 3 hts (good_V wC_500 wC_501 wC_502 wC_49 wC_503) rfl rfl rfl (by decide +kernel) ⟨(show 0 + 1 ≤ fV + 1 by omega), (show 8 + (5 + 11) + 0 ≤ lV + 24 by omega)⟩) ⟨cP_blind, va_recv hK hP (ci := 1) (q0 := (15 + ((gI s86 5).toNatClampNeg))) rfl (wd_at (by omega) (ct_o hh88)), fun U hU hW => ⟨rfl, by rw [hU]; exact hP, va_K.moved hW.alike hK, hN.warm hW⟩⟩ rfl rfl hl.1 rfl (lv_room (Nat.le_of_ble_eq_true rfl)) d_WK_call_176 ⟨Nat.le_of_ble_eq_true rfl, Nat.le_of_ble_eq_true rfl⟩) hS (fun q _ h => h) (fun q h => h) (fun s92 t H locs ht0 hvm hq hB hz1 hk1 hS => ?_)
              obtain ⟨hP, -, -⟩ := hB
              rw [ht0] at hP
              refine lv_aload hx hb d_WK_call_179 (lv_at hl 0 rfl) ?_
              refine lv_iconst (v := 1) hx hb d_WK_call_181 (by decide) ?_
              refine lv_aload_n hx hb d_WK_call_182 rfl (lv_at hl 4 rfl) ?_
              refine cw_get (C := R_WK) (T := F_WK) (N := 13) (v := .ref (ad 1)) hx hb hts (in_WK _) hown hK hP 12 (by decide) rfl rfl 5 (by decide) (ht _ wC_192) rfl d_WK_call_183 ?_
              refine cw_get (C := R_PR) (T := F_PR) (N := 8) (v := .ref (ad 5)) hx hb hts (in_PR _) hown hK hP 1 (by decide) rfl rfl 3 (by decide) (ht _ wC_89) rfl d_WK_call_186 ?_
              refine lv_iload_n hx hb d_WK_call_189 rfl (lv_at hl 5 rfl) ?_
              refine cw_iald hx hb hK hP 5 (by decide) rfl 0 rfl hq.1 d_WK_call_190 ?_
              have hq := hq.2
              refine lv_dload hx hb d_WK_call_191 (lv_at hl 1 rfl) ?_
              refine va_callv (va_runV (As := [.int 1, .int (gA s92 3 p1.toNatClampNeg), .double r80]) (rest := []) ⟨hx, hb, hml, hown, hts⟩ (c_EN_give (D := D) (cs := cs) hi hq) (cwV 3 hts (good_V wC_500 wC_501 wC_502 wC_49 wC_503) rfl rfl rfl (by decide +kernel) ⟨(show 0 + 1 ≤ fV + 1 by omega), (show 8 + (5 + 11) + 0 ≤ lV + 24 by omega)⟩) ⟨cP_blind, va_recv hK hP (ci := 1) (q0 := (15 + ((gI s86 5).toNatClampNeg))) rfl (wd_at (by omega) (ct_o hh88)), fun U hU hW => ⟨rfl, by rw [hU]; exact hP, va_K.moved hW.alike hK, hN.warm hW⟩⟩ rfl rfl hl.1 rfl (lv_room (Nat.le_of_ble_eq_true rfl)) d_WK_call_193 ⟨Nat.le_of_ble_eq_true rfl, Nat.le_of_ble_eq_true rfl⟩) hS (fun q _ h => h) (fun q h => h) (fun s94 t H locs ht0 hvm hq hB hz1 hk1 hS => ?_)
              obtain ⟨hP, -, -⟩ := hB
              rw [ht0] at hP
              refine lv_aload_n hx hb d_WK_call_196 rfl (lv_at hl 4 rfl) ?_
              refine lv_dup hx hb d_WK_call_197 rfl ?_
              refine cw_get (C := R_WK) (T := F_WK) (N := 13) (v := .int (gI s94 5)) hx hb hts (in_WK _) hown hK hP 12 (by decide) rfl rfl 10 (by decide) (ht _ wC_197) rfl d_WK_call_198 ?_
              refine lv_iconst (v := 1) hx hb d_WK_call_201 (by decide) ?_
              refine lv_iadd hx hb d_WK_call_202 ?_
              refine cw_put (C := R_WK) (T := F_WK) (N := 13) (ty := .int) (v := .int ((gI s94 5) + 1)) hx hb hts (in_WK _) t_WK tok_WK n_WK hown hK hP hi hS 12 (by decide) rfl rfl 10 (by decide) (ht _ wC_197) rfl (by decide +kernel) rfl rfl (Nat.le_of_ble_eq_true rfl) up_WK_openCalls d_WK_call_203 (fun H locs hP hS => ?_)
              obtain ⟨s95, e_s95⟩ : ∃ z, z = sI s94 5 ((gI s94 5) + 1) := ⟨_, rfl⟩
              rw [← e_s95] at hP
              have hq := hq s95 e_s95
              refine lv_aload_n hx hb d_WK_call_206 rfl (lv_at hl 4 rfl) ?_
              refine lv_dup hx hb d_WK_call_207 rfl ?_
              refine cw_get (C := R_WK) (T := F_WK) (N := 13) (v := .int (gI s95 2)) hx hb hts (in_WK _) hown hK hP 12 (by decide) rfl rfl 2 (by decide) (ht _ wC_186) rfl d_WK_call_208 ?_
              refine lv_iconst (v := 1) hx hb d_WK_call_211 (by decide) ?_
              refine lv_iadd hx hb d_WK_call_212 ?_
              refine cw_put (C := R_WK) (T := F_WK) (N := 13) (ty := .int) (v := .int ((gI s95 2) + 1)) hx hb hts (in_WK _) t_WK tok_WK n_WK hown hK hP hi hS 12 (by decide) rfl rfl 2 (by decide) (ht _ wC_186) rfl (by decide +kernel) rfl rfl (Nat.le_of_ble_eq_true rfl) up_WK_bodiesBegun d_WK_call_213 (fun H locs hP hS => ?_)
              obtain ⟨s96, e_s96⟩ : ∃ z, z = sI s95 2 ((gI s95 2) + 1) := ⟨_, rfl⟩
              rw [← e_s96] at hP
              have hq := hq s96 e_s96
              refine lv_aload_n hx hb d_WK_call_216 rfl (lv_at hl 4 rfl) ?_
              refine lv_aload_n hx hb d_WK_call_217 rfl (lv_at hl 4 rfl) ?_
              refine cw_get (C := R_WK) (T := F_WK) (N := 13) (v := .ref (ad 1)) hx hb hts (in_WK _) hown hK hP 12 (by decide) rfl rfl 5 (by decide) (ht _ wC_192) rfl d_WK_call_218 ?_
              refine cw_get (C := R_PR) (T := F_PR) (N := 8) (v := .ref (ad 6)) hx hb hts (in_PR _) hown hK hP 1 (by decide) rfl rfl 5 (by decide) (ht _ wC_93) rfl d_WK_call_221 ?_
              refine lv_iload hx hb d_WK_call_224 (lv_at hl 3 rfl) ?_
              refine cw_iald hx hb hK hP 6 (by decide) rfl 0 rfl hq.1 d_WK_call_226 ?_
              have hq := hq.2
              refine lv_aload hx hb d_WK_call_227 (lv_at hl 0 rfl) ?_
              refine lv_iload_n hx hb d_WK_call_229 rfl (lv_at hl 7 rfl) ?_
              refine lv_iconst (v := 1) hx hb d_WK_call_230 (by decide) ?_
              refine lv_iadd hx hb d_WK_call_231 ?_
              refine va_calld (va_runV (As := [.int (gA s96 4 ((gA s2 1 p1.toNatClampNeg).toNatClampNeg)), .ref (ad (15 + ((gI s86 5).toNatClampNeg))), .int (p3 + 1)]) (rest := []) ⟨hx, hb, hml, hown, hts⟩ (hV hq) (cwV 3 hts (good_V wC_439 wC_441 wC_2 wC_48 wC_442) rfl rfl rfl (by decide +kernel) ⟨(show fV + 1 ≤ fV + 1 by omega), (show 8 + (5 + 11) + lV ≤ lV + 24 by omega)⟩) ⟨cP_blind, va_recv hK hP (ci := 4) (q0 := 12) rfl (wd_at (by decide) rfl), fun U hU hW => ⟨rfl, by rw [hU]; exact hP, va_K.moved hW.alike hK, hN.warm hW⟩⟩ rfl rfl hl.1 rfl (lv_room (Nat.le_of_ble_eq_true rfl)) d_WK_call_232 ⟨Nat.le_of_ble_eq_true rfl, Nat.le_of_ble_eq_true rfl⟩) hS (fun q _ h => h) (fun q h => h) (fun r97 s98 t H locs ht0 hvm hq hB hz1 hk1 hS => ?_)
              obtain ⟨hP, -, -⟩ := hB
              rw [ht0] at hP
              refine lv_dstore (lv' := [(10, .double r97), (9, .ref (ad (15 + ((gI s86 5).toNatClampNeg)))), (7, .double r80), (5, .double r53), (4, .int (gA s2 1 p1.toNatClampNeg)), (0, .ref (ad 12)), (1, .int p1), (2, .ref (ad (15 + g2))), (3, .int p3)]) hx hb d_WK_call_235 hl (by decide) rfl (fun ls hl => ?_)
              refine lv_aload_n hx hb d_WK_call_237 rfl (lv_at hl 5 rfl) ?_
              refine lv_dup hx hb d_WK_call_238 rfl ?_
              refine cw_get (C := R_WK) (T := F_WK) (N := 13) (v := .int (gI s98 5)) hx hb hts (in_WK _) hown hK hP 12 (by decide) rfl rfl 10 (by decide) (ht _ wC_197) rfl d_WK_call_239 ?_
              refine lv_iconst (v := 1) hx hb d_WK_call_242 (by decide) ?_
              refine lv_isub hx hb d_WK_call_243 ?_
              refine cw_put (C := R_WK) (T := F_WK) (N := 13) (ty := .int) (v := .int ((gI s98 5) - 1)) hx hb hts (in_WK _) t_WK tok_WK n_WK hown hK hP hi hS 12 (by decide) rfl rfl 10 (by decide) (ht _ wC_197) rfl (by decide +kernel) rfl rfl (Nat.le_of_ble_eq_true rfl) up_WK_openCalls d_WK_call_244 (fun H locs hP hS => ?_)
              obtain ⟨s99, e_s99⟩ : ∃ z, z = sI s98 5 ((gI s98 5) - 1) := ⟨_, rfl⟩
              rw [← e_s99] at hP
              have hq := hq s99 e_s99
              refine lv_aload_n hx hb d_WK_call_247 rfl (lv_at hl 5 rfl) ?_
              refine lv_dup hx hb d_WK_call_248 rfl ?_
              refine cw_get (C := R_WK) (T := F_WK) (N := 13) (v := .int (gI s99 6)) hx hb hts (in_WK _) hown hK hP 12 (by decide) rfl rfl 11 (by decide) (ht _ wC_198) rfl d_WK_call_249 ?_
              refine lv_iconst (v := 1) hx hb d_WK_call_252 (by decide) ?_
              refine lv_isub hx hb d_WK_call_253 ?_
              refine cw_put (C := R_WK) (T := F_WK) (N := 13) (ty := .int) (v := .int ((gI s99 6) - 1)) hx hb hts (in_WK _) t_WK tok_WK n_WK hown hK hP hi hS 12 (by decide) rfl rfl 11 (by decide) (ht _ wC_198) rfl (by decide +kernel) rfl rfl (Nat.le_of_ble_eq_true rfl) up_WK_openEnvironments d_WK_call_254 (fun H locs hP hS => ?_)
              obtain ⟨s100, e_s100⟩ : ∃ z, z = sI s99 6 ((gI s99 6) - 1) := ⟨_, rfl⟩
              rw [← e_s100] at hP
              have hq := hq s100 e_s100
              refine lv_dload hx hb d_WK_call_257 (lv_at hl 0 rfl) ?_
              exact W.dret hx hb hr (fun t ht hW => ⟨⟨r97, s100, rfl, hq, by rw [ht]; exact hP, va_K.moved hW.alike hK, hN.warm hW⟩, hS.F ht⟩) hS.2.2 d_WK_call_259
            · have hq := hq.1 c87
              refine lv_dconst0 hx hb d_WK_call_123 ?_
              exact W.dret hx hb hr (fun t ht hW => ⟨⟨FP.dconst0, s86, rfl, hq, by rw [ht]; exact hP, va_K.moved hW.alike hK, hN.warm hW⟩, hS.F ht⟩) hS.2.2 d_WK_call_124
      · have hq := hq.2 c57
        refine lv_dconst0 hx hb d_WK_call_71 ?_
        exact W.dret hx hb hr (fun t ht hW => ⟨⟨FP.dconst0, s56, rfl, hq, by rw [ht]; exact hP, va_K.moved hW.alike hK, hN.warm hW⟩, hS.F ht⟩) hS.2.2 d_WK_call_72
  · have hq := hq.1 c3
    refine lv_aload_n hx hb d_WK_call_11 rfl (lv_at hl 0 rfl) ?_
    refine lv_iconst (v := 4) hx hb d_WK_call_12 (by decide) ?_
    refine va_calld (va_runV (As := [.int 4]) (rest := []) ⟨hx, hb, hml, hown, hts⟩ (c_WK_fail (D := D) (cs := cs) hi hq) (cwV 1 hts (good_V wC_464 wC_466 wC_7 wC_48 wC_467) rfl rfl rfl (by decide +kernel) ⟨(show 0 + 1 ≤ fV + 1 by omega), (show 8 + (2 + 11) + 0 ≤ lV + 24 by omega)⟩) ⟨cP_blind, va_recv hK hP (ci := 4) (q0 := 12) rfl (wd_at (by decide) rfl), fun U hU hW => ⟨rfl, by rw [hU]; exact hP, va_K.moved hW.alike hK, hN.warm hW⟩⟩ rfl rfl hl.1 rfl (lv_room (Nat.le_of_ble_eq_true rfl)) d_WK_call_13 ⟨Nat.le_of_ble_eq_true rfl, Nat.le_of_ble_eq_true rfl⟩) hS (fun q _ h => h) (fun q h => h) (fun r101 s102 t H locs ht0 hvm hq hB hz1 hk1 hS => ?_)
    obtain ⟨hP, -, -⟩ := hB
    rw [ht0] at hP
    exact W.dret hx hb hr (fun t ht hW => ⟨⟨r101, s102, rfl, hq, by rw [ht]; exact hP, va_K.moved hW.alike hK, hN.warm hW⟩, hS.F ht⟩) hS.2.2 d_WK_call_16
def wp_WK_sequence (V : VT) (p1 : Int32) (g2 : Nat) (p3 : Int32) (σ : CS) (Q : UInt64 → CS → Prop) : Prop := (g2 < 9 ∧ (vp_in p1 48 ∧ (V (gA σ 1 p1.toNatClampNeg) g2 (p3 + 1) σ (fun r1 s2 => (wp_WK_leaving  s2 (fun r3 s4 => ((r3 = 0 → (vp_in p1 48 ∧ (V (gA s4 2 p1.toNatClampNeg) g2 (p3 + 1) s4 (fun r6 s7 => Q r6 s7)))) ∧ (¬ r3 = 0 → Q FP.dconst0 s4))))))))
set_option maxHeartbeats 4000000 in
set_option maxRecDepth 100000 in
theorem c_WK_sequence {l : Launch} {D : va_G} {cs : CI} {ad : Nat → Nat} (hi : aI ad 51) {V : VT} {fV lV : Nat} (hf : 5 ≤ fV) (hlo : 100 ≤ lV) (hV : ∀ {n : Int32} {h : Nat} {dp : Int32} {σ : CS} {Q : UInt64 → CS → Prop}, V n h dp σ Q → Met l y_WK_value (.code y_WK_value b_WK_value 5 (some .double) :: wC) ({ frames := fV, cells := 0, slots := 0, locals := lV }) (va_Pc [.ref (ad 12), .int n, .ref (ad (15 + h)), .int dp] (cP D cs ad σ)) (va_Qd Q (cP D cs ad) (aK ad 51)) 0 0 (aK ad 51)) {p1 : Int32} {g2 : Nat} {p3 : Int32} {σ : CS} {Q : UInt64 → CS → Prop} (hq : wp_WK_sequence V p1 g2 p3 σ Q) : Met l y_WK_sequence (.code y_WK_sequence b_WK_sequence 4 (some .double) :: wC) ({ frames := fV + 1, cells := 0, slots := 0, locals := lV + 24 }) (va_Pc [.ref (ad 12), .int p1, .ref (ad (15 + g2)), .int p3] (cP D cs ad σ)) (va_Qd Q (cP D cs ad) (aK ad 51)) 0 0 (aK ad 51) := by
  refine Met.ofW (cc := b_WK_sequence) (maxL := 4) (ret := (some .double)) (by decide) rfl ?_
  intro p e s m args below meth c s₁ B hml hv
  obtain ⟨rfl, hP, hK, hN⟩ := hv
  have hx := B.exec
  have hb := B.bytes
  have hr := B.returns
  have hts := atoms_spec (ws := .code y_WK_sequence b_WK_sequence 4 (some .double) :: wC) B.pre
  have ht : ∀ w ∈ wC, w.before _ s = true := fun w h => hts w (List.mem_cons_of_mem _ h)
  have hown : s.vm.findClass R_WK = some m.cls := findClass_of_methodNamed B.named
  have hlocks := B.notSynchronized
  have hS : va_S (aK ad 51) s.heap s.heap [] := va_S.rf
  have hl := lv_entry ([.ref (ad 12), .int p1, .ref (ad (15 + g2)), .int p3]) (n := 4) (Nat.le_of_ble_eq_true rfl)
  rw [lg_entry_eq]
  generalize (lg_sl ([.ref (ad 12), .int p1, .ref (ad (15 + g2)), .int p3]) ++ List.replicate (4 - (lg_sl ([.ref (ad 12), .int p1, .ref (ad (15 + g2)), .int p3])).length) Slot.unset).toArray = ls at hl ⊢
  have hl : lv_has ls 4 [(0, .ref (ad 12)), (1, .int p1), (2, .ref (ad (15 + g2))), (3, .int p3)] := hl
  unfold wp_WK_sequence at hq
  have hh_g2 : g2 < 9 := hq.1
  have hq := hq.2
  have hh8 : 8 < 9 := by decide
  refine lv_aload_n hx hb d_WK_sequence_0 rfl (lv_at hl 0 rfl) ?_
  refine lv_aload_n hx hb d_WK_sequence_1 rfl (lv_at hl 0 rfl) ?_
  refine cw_get (C := R_WK) (T := F_WK) (N := 13) (v := .ref (ad 1)) hx hb hts (in_WK _) hown hK hP 12 (by decide) rfl rfl 5 (by decide) (ht _ wC_192) rfl d_WK_sequence_2 ?_
  refine cw_get (C := R_PR) (T := F_PR) (N := 8) (v := .ref (ad 3)) hx hb hts (in_PR _) hown hK hP 1 (by decide) rfl rfl 1 (by decide) (ht _ wC_82) rfl d_WK_sequence_5 ?_
  refine lv_iload_n hx hb d_WK_sequence_8 rfl (lv_at hl 1 rfl) ?_
  refine cw_iald hx hb hK hP 3 (by decide) rfl 0 rfl hq.1 d_WK_sequence_9 ?_
  have hq := hq.2
  refine lv_aload_n hx hb d_WK_sequence_10 rfl (lv_at hl 2 rfl) ?_
  refine lv_iload_n hx hb d_WK_sequence_11 rfl (lv_at hl 3 rfl) ?_
  refine lv_iconst (v := 1) hx hb d_WK_sequence_12 (by decide) ?_
  refine lv_iadd hx hb d_WK_sequence_13 ?_
  refine va_calld (va_runV (As := [.int (gA σ 1 p1.toNatClampNeg), .ref (ad (15 + g2)), .int (p3 + 1)]) (rest := []) ⟨hx, hb, hml, hown, hts⟩ (hV hq) (cwV 3 hts (good_V wC_439 wC_441 wC_2 wC_48 wC_442) rfl rfl rfl (by decide +kernel) ⟨(show fV + 1 ≤ fV + 1 by omega), (show 8 + (5 + 11) + lV ≤ lV + 24 by omega)⟩) ⟨cP_blind, va_recv hK hP (ci := 4) (q0 := 12) rfl (wd_at (by decide) rfl), fun U hU hW => ⟨rfl, by rw [hU]; exact hP, va_K.moved hW.alike hK, hN.warm hW⟩⟩ rfl rfl hl.1 rfl (lv_room (Nat.le_of_ble_eq_true rfl)) d_WK_sequence_14 ⟨Nat.le_of_ble_eq_true rfl, Nat.le_of_ble_eq_true rfl⟩) hS (fun q _ h => h) (fun q h => h) (fun r1 s2 t H locs ht0 hvm hq hB hz1 hk1 hS => ?_)
  obtain ⟨hP, -, -⟩ := hB
  rw [ht0] at hP
  refine lv_pop2_2 hx hb d_WK_sequence_17 rfl ?_
  refine lv_aload_n hx hb d_WK_sequence_18 rfl (lv_at hl 0 rfl) ?_
  refine va_calli (va_runV (As := []) (rest := []) ⟨hx, hb, hml, hown, hts⟩ (c_WK_leaving (D := D) (cs := cs) hi hq) (cwV 0 hts (good_V wC_452 wC_454 wC_5 wC_48 wC_455) rfl rfl rfl (by decide +kernel) ⟨(show 0 + 1 ≤ fV + 1 by omega), (show 8 + (1 + 11) + 0 ≤ lV + 24 by omega)⟩) ⟨cP_blind, va_recv hK hP (ci := 4) (q0 := 12) rfl (wd_at (by decide) rfl), fun U hU hW => ⟨rfl, by rw [hU]; exact hP, va_K.moved hW.alike hK, hN.warm hW⟩⟩ rfl rfl hl.1 rfl (lv_room (Nat.le_of_ble_eq_true rfl)) d_WK_sequence_19 ⟨Nat.le_of_ble_eq_true rfl, Nat.le_of_ble_eq_true rfl⟩) hS (fun q _ h => h) (fun q h => h) (fun r3 s4 t H locs ht0 hvm hq hB hz1 hk1 hS => ?_)
  obtain ⟨hP, -, -⟩ := hB
  rw [ht0] at hP
  refine lv_if_eq (tgt := 29) hx hb d_WK_sequence_22 (by decide) (fun c5 => ?_) (fun c5 => ?_)
  · have hq := hq.1 c5
    refine lv_aload_n hx hb d_WK_sequence_29 rfl (lv_at hl 0 rfl) ?_
    refine lv_aload_n hx hb d_WK_sequence_30 rfl (lv_at hl 0 rfl) ?_
    refine cw_get (C := R_WK) (T := F_WK) (N := 13) (v := .ref (ad 1)) hx hb hts (in_WK _) hown hK hP 12 (by decide) rfl rfl 5 (by decide) (ht _ wC_192) rfl d_WK_sequence_31 ?_
    refine cw_get (C := R_PR) (T := F_PR) (N := 8) (v := .ref (ad 4)) hx hb hts (in_PR _) hown hK hP 1 (by decide) rfl rfl 2 (by decide) (ht _ wC_85) rfl d_WK_sequence_34 ?_
    refine lv_iload_n hx hb d_WK_sequence_37 rfl (lv_at hl 1 rfl) ?_
    refine cw_iald hx hb hK hP 4 (by decide) rfl 0 rfl hq.1 d_WK_sequence_38 ?_
    have hq := hq.2
    refine lv_aload_n hx hb d_WK_sequence_39 rfl (lv_at hl 2 rfl) ?_
    refine lv_iload_n hx hb d_WK_sequence_40 rfl (lv_at hl 3 rfl) ?_
    refine lv_iconst (v := 1) hx hb d_WK_sequence_41 (by decide) ?_
    refine lv_iadd hx hb d_WK_sequence_42 ?_
    refine va_calld (va_runV (As := [.int (gA s4 2 p1.toNatClampNeg), .ref (ad (15 + g2)), .int (p3 + 1)]) (rest := []) ⟨hx, hb, hml, hown, hts⟩ (hV hq) (cwV 3 hts (good_V wC_439 wC_441 wC_2 wC_48 wC_442) rfl rfl rfl (by decide +kernel) ⟨(show fV + 1 ≤ fV + 1 by omega), (show 8 + (5 + 11) + lV ≤ lV + 24 by omega)⟩) ⟨cP_blind, va_recv hK hP (ci := 4) (q0 := 12) rfl (wd_at (by decide) rfl), fun U hU hW => ⟨rfl, by rw [hU]; exact hP, va_K.moved hW.alike hK, hN.warm hW⟩⟩ rfl rfl hl.1 rfl (lv_room (Nat.le_of_ble_eq_true rfl)) d_WK_sequence_43 ⟨Nat.le_of_ble_eq_true rfl, Nat.le_of_ble_eq_true rfl⟩) hS (fun q _ h => h) (fun q h => h) (fun r6 s7 t H locs ht0 hvm hq hB hz1 hk1 hS => ?_)
    obtain ⟨hP, -, -⟩ := hB
    rw [ht0] at hP
    exact W.dret hx hb hr (fun t ht hW => ⟨⟨r6, s7, rfl, hq, by rw [ht]; exact hP, va_K.moved hW.alike hK, hN.warm hW⟩, hS.F ht⟩) hS.2.2 d_WK_sequence_46
  · have hq := hq.2 c5
    refine lv_dconst0 hx hb d_WK_sequence_25 ?_
    refine lv_goto (tgt := 46) hx hb d_WK_sequence_26 (by decide) ?_
    exact W.dret hx hb hr (fun t ht hW => ⟨⟨FP.dconst0, s4, rfl, hq, by rw [ht]; exact hP, va_K.moved hW.alike hK, hN.warm hW⟩, hS.F ht⟩) hS.2.2 d_WK_sequence_46
def wp_WK_label (V : VT) (p1 : Int32) (g2 : Nat) (p3 : Int32) (σ : CS) (Q : UInt64 → CS → Prop) : Prop := (g2 < 9 ∧ (vp_in p1 48 ∧ (vp_in (gA σ 1 p1.toNatClampNeg) 4 ∧ (vp_in (gA σ 1 p1.toNatClampNeg) 4 ∧ (∀ s1 : CS, s1 = sA σ 7 (upd (gA σ 7) ((gA σ 1 p1.toNatClampNeg).toNatClampNeg) ((gA σ 7 ((gA σ 1 p1.toNatClampNeg).toNatClampNeg)) + 1)) → (vp_in p1 48 ∧ (V (gA s1 2 p1.toNatClampNeg) g2 (p3 + 1) s1 (fun r2 s3 => (vp_in (gA σ 1 p1.toNatClampNeg) 4 ∧ (vp_in (gA σ 1 p1.toNatClampNeg) 4 ∧ (∀ s4 : CS, s4 = sA s3 7 (upd (gA s3 7) ((gA σ 1 p1.toNatClampNeg).toNatClampNeg) ((gA s3 7 ((gA σ 1 p1.toNatClampNeg).toNatClampNeg)) - 1)) → (((gI s4 7) = (gA σ 1 p1.toNatClampNeg) → (∀ s6 : CS, s6 = sI s4 7 (-1) → (∀ s7 : CS, s7 = sI s6 4 ((gI s6 4) + 1) → Q FP.dconst0 s7))) ∧ (¬ (gI s4 7) = (gA σ 1 p1.toNatClampNeg) → Q r2 s4)))))))))))))
set_option maxHeartbeats 4000000 in
set_option maxRecDepth 100000 in
theorem c_WK_label {l : Launch} {D : va_G} {cs : CI} {ad : Nat → Nat} (hi : aI ad 51) {V : VT} {fV lV : Nat} (hf : 5 ≤ fV) (hlo : 100 ≤ lV) (hV : ∀ {n : Int32} {h : Nat} {dp : Int32} {σ : CS} {Q : UInt64 → CS → Prop}, V n h dp σ Q → Met l y_WK_value (.code y_WK_value b_WK_value 5 (some .double) :: wC) ({ frames := fV, cells := 0, slots := 0, locals := lV }) (va_Pc [.ref (ad 12), .int n, .ref (ad (15 + h)), .int dp] (cP D cs ad σ)) (va_Qd Q (cP D cs ad) (aK ad 51)) 0 0 (aK ad 51)) {p1 : Int32} {g2 : Nat} {p3 : Int32} {σ : CS} {Q : UInt64 → CS → Prop} (hq : wp_WK_label V p1 g2 p3 σ Q) : Met l y_WK_label (.code y_WK_label b_WK_label 7 (some .double) :: wC) ({ frames := fV + 1, cells := 0, slots := 0, locals := lV + 24 }) (va_Pc [.ref (ad 12), .int p1, .ref (ad (15 + g2)), .int p3] (cP D cs ad σ)) (va_Qd Q (cP D cs ad) (aK ad 51)) 0 0 (aK ad 51) := by
  refine Met.ofW (cc := b_WK_label) (maxL := 7) (ret := (some .double)) (by decide) rfl ?_
  intro p e s m args below meth c s₁ B hml hv
  obtain ⟨rfl, hP, hK, hN⟩ := hv
  have hx := B.exec
  have hb := B.bytes
  have hr := B.returns
  have hts := atoms_spec (ws := .code y_WK_label b_WK_label 7 (some .double) :: wC) B.pre
  have ht : ∀ w ∈ wC, w.before _ s = true := fun w h => hts w (List.mem_cons_of_mem _ h)
  have hown : s.vm.findClass R_WK = some m.cls := findClass_of_methodNamed B.named
  have hlocks := B.notSynchronized
  have hS : va_S (aK ad 51) s.heap s.heap [] := va_S.rf
  have hl := lv_entry ([.ref (ad 12), .int p1, .ref (ad (15 + g2)), .int p3]) (n := 7) (Nat.le_of_ble_eq_true rfl)
  rw [lg_entry_eq]
  generalize (lg_sl ([.ref (ad 12), .int p1, .ref (ad (15 + g2)), .int p3]) ++ List.replicate (7 - (lg_sl ([.ref (ad 12), .int p1, .ref (ad (15 + g2)), .int p3])).length) Slot.unset).toArray = ls at hl ⊢
  have hl : lv_has ls 7 [(0, .ref (ad 12)), (1, .int p1), (2, .ref (ad (15 + g2))), (3, .int p3)] := hl
  unfold wp_WK_label at hq
  have hh_g2 : g2 < 9 := hq.1
  have hq := hq.2
  have hh8 : 8 < 9 := by decide
  refine lv_aload_n hx hb d_WK_label_0 rfl (lv_at hl 0 rfl) ?_
  refine cw_get (C := R_WK) (T := F_WK) (N := 13) (v := .ref (ad 1)) hx hb hts (in_WK _) hown hK hP 12 (by decide) rfl rfl 5 (by decide) (ht _ wC_192) rfl d_WK_label_1 ?_
  refine cw_get (C := R_PR) (T := F_PR) (N := 8) (v := .ref (ad 3)) hx hb hts (in_PR _) hown hK hP 1 (by decide) rfl rfl 1 (by decide) (ht _ wC_82) rfl d_WK_label_4 ?_
  refine lv_iload_n hx hb d_WK_label_7 rfl (lv_at hl 1 rfl) ?_
  refine cw_iald hx hb hK hP 3 (by decide) rfl 0 rfl hq.1 d_WK_label_8 ?_
  have hq := hq.2
  refine lv_istore (lv' := [(4, .int (gA σ 1 p1.toNatClampNeg)), (0, .ref (ad 12)), (1, .int p1), (2, .ref (ad (15 + g2))), (3, .int p3)]) hx hb d_WK_label_9 hl (by decide) rfl (fun ls hl => ?_)
  refine lv_aload_n hx hb d_WK_label_11 rfl (lv_at hl 1 rfl) ?_
  refine cw_get (C := R_WK) (T := F_WK) (N := 13) (v := .ref (ad 13)) hx hb hts (in_WK _) hown hK hP 12 (by decide) rfl rfl 9 (by decide) (ht _ wC_196) rfl d_WK_label_12 ?_
  refine lv_iload hx hb d_WK_label_15 (lv_at hl 0 rfl) ?_
  refine lv_dup2_11 hx hb d_WK_label_17 rfl rfl ?_
  refine cw_iald hx hb hK hP 13 (by decide) rfl 0 rfl hq.1 d_WK_label_18 ?_
  have hq := hq.2
  refine lv_iconst (v := 1) hx hb d_WK_label_19 (by decide) ?_
  refine lv_iadd hx hb d_WK_label_20 ?_
  refine cw_iast hx hb hK hP hi hS 13 (by decide) rfl 0 rfl hq.1 upa_7 d_WK_label_21 (fun H locs hP hS => ?_)
  have hq := hq.2
  obtain ⟨s1, e_s1⟩ : ∃ z, z = sA σ 7 (upd (gA σ 7) ((gA σ 1 p1.toNatClampNeg).toNatClampNeg) ((gA σ 7 ((gA σ 1 p1.toNatClampNeg).toNatClampNeg)) + 1)) := ⟨_, rfl⟩
  rw [← e_s1] at hP
  have hq := hq s1 e_s1
  refine lv_aload_n hx hb d_WK_label_22 rfl (lv_at hl 1 rfl) ?_
  refine lv_aload_n hx hb d_WK_label_23 rfl (lv_at hl 1 rfl) ?_
  refine cw_get (C := R_WK) (T := F_WK) (N := 13) (v := .ref (ad 1)) hx hb hts (in_WK _) hown hK hP 12 (by decide) rfl rfl 5 (by decide) (ht _ wC_192) rfl d_WK_label_24 ?_
  refine cw_get (C := R_PR) (T := F_PR) (N := 8) (v := .ref (ad 4)) hx hb hts (in_PR _) hown hK hP 1 (by decide) rfl rfl 2 (by decide) (ht _ wC_85) rfl d_WK_label_27 ?_
  refine lv_iload_n hx hb d_WK_label_30 rfl (lv_at hl 2 rfl) ?_
  refine cw_iald hx hb hK hP 4 (by decide) rfl 0 rfl hq.1 d_WK_label_31 ?_
  have hq := hq.2
  refine lv_aload_n hx hb d_WK_label_32 rfl (lv_at hl 3 rfl) ?_
  refine lv_iload_n hx hb d_WK_label_33 rfl (lv_at hl 4 rfl) ?_
  refine lv_iconst (v := 1) hx hb d_WK_label_34 (by decide) ?_
  refine lv_iadd hx hb d_WK_label_35 ?_
  refine va_calld (va_runV (As := [.int (gA s1 2 p1.toNatClampNeg), .ref (ad (15 + g2)), .int (p3 + 1)]) (rest := []) ⟨hx, hb, hml, hown, hts⟩ (hV hq) (cwV 3 hts (good_V wC_439 wC_441 wC_2 wC_48 wC_442) rfl rfl rfl (by decide +kernel) ⟨(show fV + 1 ≤ fV + 1 by omega), (show 8 + (5 + 11) + lV ≤ lV + 24 by omega)⟩) ⟨cP_blind, va_recv hK hP (ci := 4) (q0 := 12) rfl (wd_at (by decide) rfl), fun U hU hW => ⟨rfl, by rw [hU]; exact hP, va_K.moved hW.alike hK, hN.warm hW⟩⟩ rfl rfl hl.1 rfl (lv_room (Nat.le_of_ble_eq_true rfl)) d_WK_label_36 ⟨Nat.le_of_ble_eq_true rfl, Nat.le_of_ble_eq_true rfl⟩) hS (fun q _ h => h) (fun q h => h) (fun r2 s3 t H locs ht0 hvm hq hB hz1 hk1 hS => ?_)
  obtain ⟨hP, -, -⟩ := hB
  rw [ht0] at hP
  refine lv_dstore (lv' := [(5, .double r2), (4, .int (gA σ 1 p1.toNatClampNeg)), (0, .ref (ad 12)), (1, .int p1), (2, .ref (ad (15 + g2))), (3, .int p3)]) hx hb d_WK_label_39 hl (by decide) rfl (fun ls hl => ?_)
  refine lv_aload_n hx hb d_WK_label_41 rfl (lv_at hl 2 rfl) ?_
  refine cw_get (C := R_WK) (T := F_WK) (N := 13) (v := .ref (ad 13)) hx hb hts (in_WK _) hown hK hP 12 (by decide) rfl rfl 9 (by decide) (ht _ wC_196) rfl d_WK_label_42 ?_
  refine lv_iload hx hb d_WK_label_45 (lv_at hl 1 rfl) ?_
  refine lv_dup2_11 hx hb d_WK_label_47 rfl rfl ?_
  refine cw_iald hx hb hK hP 13 (by decide) rfl 0 rfl hq.1 d_WK_label_48 ?_
  have hq := hq.2
  refine lv_iconst (v := 1) hx hb d_WK_label_49 (by decide) ?_
  refine lv_isub hx hb d_WK_label_50 ?_
  refine cw_iast hx hb hK hP hi hS 13 (by decide) rfl 0 rfl hq.1 upa_7 d_WK_label_51 (fun H locs hP hS => ?_)
  have hq := hq.2
  obtain ⟨s4, e_s4⟩ : ∃ z, z = sA s3 7 (upd (gA s3 7) ((gA σ 1 p1.toNatClampNeg).toNatClampNeg) ((gA s3 7 ((gA σ 1 p1.toNatClampNeg).toNatClampNeg)) - 1)) := ⟨_, rfl⟩
  rw [← e_s4] at hP
  have hq := hq s4 e_s4
  refine lv_aload_n hx hb d_WK_label_52 rfl (lv_at hl 2 rfl) ?_
  refine cw_get (C := R_WK) (T := F_WK) (N := 13) (v := .int (gI s4 7)) hx hb hts (in_WK _) hown hK hP 12 (by decide) rfl rfl 12 (by decide) (ht _ wC_199) rfl d_WK_label_53 ?_
  refine lv_iload hx hb d_WK_label_56 (lv_at hl 1 rfl) ?_
  refine lv_icmp_eq (tgt := 64) hx hb d_WK_label_58 (by decide) (fun c5 => ?_) (fun c5 => ?_)
  · have hq := hq.1 c5
    refine lv_aload_n hx hb d_WK_label_64 rfl (lv_at hl 2 rfl) ?_
    refine lv_iconst (v := (-1)) hx hb d_WK_label_65 (by decide) ?_
    refine cw_put (C := R_WK) (T := F_WK) (N := 13) (ty := .int) (v := .int (-1)) hx hb hts (in_WK _) t_WK tok_WK n_WK hown hK hP hi hS 12 (by decide) rfl rfl 12 (by decide) (ht _ wC_199) rfl (by decide +kernel) rfl rfl (Nat.le_of_ble_eq_true rfl) up_WK_jumpingTo d_WK_label_66 (fun H locs hP hS => ?_)
    obtain ⟨s6, e_s6⟩ : ∃ z, z = sI s4 7 (-1) := ⟨_, rfl⟩
    rw [← e_s6] at hP
    have hq := hq s6 e_s6
    refine lv_aload_n hx hb d_WK_label_69 rfl (lv_at hl 2 rfl) ?_
    refine lv_dup hx hb d_WK_label_70 rfl ?_
    refine cw_get (C := R_WK) (T := F_WK) (N := 13) (v := .int (gI s6 4)) hx hb hts (in_WK _) hown hK hP 12 (by decide) rfl rfl 4 (by decide) (ht _ wC_190) rfl d_WK_label_71 ?_
    refine lv_iconst (v := 1) hx hb d_WK_label_74 (by decide) ?_
    refine lv_iadd hx hb d_WK_label_75 ?_
    refine cw_put (C := R_WK) (T := F_WK) (N := 13) (ty := .int) (v := .int ((gI s6 4) + 1)) hx hb hts (in_WK _) t_WK tok_WK n_WK hown hK hP hi hS 12 (by decide) rfl rfl 4 (by decide) (ht _ wC_190) rfl (by decide +kernel) rfl rfl (Nat.le_of_ble_eq_true rfl) up_WK_jumpsArrived d_WK_label_76 (fun H locs hP hS => ?_)
    obtain ⟨s7, e_s7⟩ : ∃ z, z = sI s6 4 ((gI s6 4) + 1) := ⟨_, rfl⟩
    rw [← e_s7] at hP
    have hq := hq s7 e_s7
    refine lv_dconst0 hx hb d_WK_label_79 ?_
    exact W.dret hx hb hr (fun t ht hW => ⟨⟨FP.dconst0, s7, rfl, hq, by rw [ht]; exact hP, va_K.moved hW.alike hK, hN.warm hW⟩, hS.F ht⟩) hS.2.2 d_WK_label_80
  · have hq := hq.2 c5
    refine lv_dload hx hb d_WK_label_61 (lv_at hl 0 rfl) ?_
    exact W.dret hx hb hr (fun t ht hW => ⟨⟨r2, s4, rfl, hq, by rw [ht]; exact hP, va_K.moved hW.alike hK, hN.warm hW⟩, hS.F ht⟩) hS.2.2 d_WK_label_63
def lp_WK_loop_3 (V : VT) (p1 : Int32) (g2 : Nat) (p3 : Int32) (Q : UInt64 → CS → Prop) : Nat → Int32 → CS → Prop
  | 0 => fun _ _ => False
  | k + 1 => fun x4 σ => ((300 < x4 → Q FP.dconst0 σ) ∧ (¬ 300 < x4 → (vp_in p1 48 ∧ (V (gA σ 1 p1.toNatClampNeg) g2 (p3 + 1) σ (fun r2 s3 => (wp_WK_leaving  s3 (fun r4 s5 => ((r4 = 0 → (((Op.cmpValue (FP.dcmp r2 FP.dconst0) .l) = 0 → Q FP.dconst0 s5) ∧ (¬ (Op.cmpValue (FP.dcmp r2 FP.dconst0) .l) = 0 → (vp_in p1 48 ∧ (V (gA s5 2 p1.toNatClampNeg) g2 (p3 + 1) s5 (fun r8 s9 => (wp_WK_leaving  s9 (fun r10 s11 => ((r10 = 0 → lp_WK_loop_3 V p1 g2 p3 Q k (x4 + 1) s11) ∧ (¬ r10 = 0 → Q FP.dconst0 s11)))))))))) ∧ (¬ r4 = 0 → Q FP.dconst0 s5)))))))))
def wp_WK_loop (V : VT) (p1 : Int32) (g2 : Nat) (p3 : Int32) (σ : CS) (Q : UInt64 → CS → Prop) : Prop := (g2 < 9 ∧ (∃ fu : Nat, lp_WK_loop_3 V p1 g2 p3 Q fu 0 σ))
set_option maxHeartbeats 4000000 in
set_option maxRecDepth 100000 in
theorem c_WK_loop {l : Launch} {D : va_G} {cs : CI} {ad : Nat → Nat} (hi : aI ad 51) {V : VT} {fV lV : Nat} (hf : 5 ≤ fV) (hlo : 100 ≤ lV) (hV : ∀ {n : Int32} {h : Nat} {dp : Int32} {σ : CS} {Q : UInt64 → CS → Prop}, V n h dp σ Q → Met l y_WK_value (.code y_WK_value b_WK_value 5 (some .double) :: wC) ({ frames := fV, cells := 0, slots := 0, locals := lV }) (va_Pc [.ref (ad 12), .int n, .ref (ad (15 + h)), .int dp] (cP D cs ad σ)) (va_Qd Q (cP D cs ad) (aK ad 51)) 0 0 (aK ad 51)) {p1 : Int32} {g2 : Nat} {p3 : Int32} {σ : CS} {Q : UInt64 → CS → Prop} (hq : wp_WK_loop V p1 g2 p3 σ Q) : Met l y_WK_loop (.code y_WK_loop b_WK_loop 7 (some .double) :: wC) ({ frames := fV + 1, cells := 0, slots := 0, locals := lV + 24 }) (va_Pc [.ref (ad 12), .int p1, .ref (ad (15 + g2)), .int p3] (cP D cs ad σ)) (va_Qd Q (cP D cs ad) (aK ad 51)) 0 0 (aK ad 51) := by
  refine Met.ofW (cc := b_WK_loop) (maxL := 7) (ret := (some .double)) (by decide) rfl ?_
  intro p e s m args below meth c s₁ B hml hv
  obtain ⟨rfl, hP, hK, hN⟩ := hv
  have hx := B.exec
  have hb := B.bytes
  have hr := B.returns
  have hts := atoms_spec (ws := .code y_WK_loop b_WK_loop 7 (some .double) :: wC) B.pre
  have ht : ∀ w ∈ wC, w.before _ s = true := fun w h => hts w (List.mem_cons_of_mem _ h)
  have hown : s.vm.findClass R_WK = some m.cls := findClass_of_methodNamed B.named
  have hlocks := B.notSynchronized
  have hS : va_S (aK ad 51) s.heap s.heap [] := va_S.rf
  have hl := lv_entry ([.ref (ad 12), .int p1, .ref (ad (15 + g2)), .int p3]) (n := 7) (Nat.le_of_ble_eq_true rfl)
  rw [lg_entry_eq]
  generalize (lg_sl ([.ref (ad 12), .int p1, .ref (ad (15 + g2)), .int p3]) ++ List.replicate (7 - (lg_sl ([.ref (ad 12), .int p1, .ref (ad (15 + g2)), .int p3])).length) Slot.unset).toArray = ls at hl ⊢
  have hl : lv_has ls 7 [(0, .ref (ad 12)), (1, .int p1), (2, .ref (ad (15 + g2))), (3, .int p3)] := hl
  unfold wp_WK_loop at hq
  have hh_g2 : g2 < 9 := hq.1
  have hq := hq.2
  have hh8 : 8 < 9 := by decide
  have loop_3 : ∀ (k : Nat) (x4 : Int32) (σ : CS) (H : Heap) (locs : List Loc) (ls : Array Slot), lp_WK_loop_3 V p1 g2 p3 Q k x4 σ → va_P D clA (wd ad (cont ad cs σ) 51) H → va_S (aK ad 51) s.heap H locs → lv_has ls 7 [(4, .int x4), (0, .ref (ad 12)), (1, .int p1), (2, .ref (ad (15 + g2))), (3, .int p3)] → W p l e (headSpec (.code y_WK_loop b_WK_loop 7 (some .double) :: wC) ({ frames := fV + 1, cells := 0, slots := 0, locals := lV + 24 })).room s m ([.ref (ad 12), .int p1, .ref (ad (15 + g2)), .int p3] : List Value).toArray below meth c H locs 0 0 (MQ below (va_Qd Q (cP D cs ad) (aK ad 51)) ([.ref (ad 12), .int p1, .ref (ad (15 + g2)), .int p3] : List Value).toArray s 0 0 (aK ad 51)) (F0 m 3 ls []) := by
    intro k
    induction k with
    | zero => intro x4 σ H locs ls hq; exact hq.elim
    | succ k ih =>
      intro x4 σ H locs ls hq hP hS hl
      unfold lp_WK_loop_3 at hq
      refine lv_iload hx hb d_WK_loop_3 (lv_at hl 0 rfl) ?_
      refine lv_sipush (v := 300) hx hb d_WK_loop_5 (by decide) ?_
      refine lv_icmp_gt (tgt := 79) hx hb d_WK_loop_8 (by decide) (fun c1 => ?_) (fun c1 => ?_)
      · have hq := hq.1 c1
        refine lv_dconst0 hx hb d_WK_loop_79 ?_
        exact W.dret hx hb hr (fun t ht hW => ⟨⟨FP.dconst0, σ, rfl, hq, by rw [ht]; exact hP, va_K.moved hW.alike hK, hN.warm hW⟩, hS.F ht⟩) hS.2.2 d_WK_loop_80
      · have hq := hq.2 c1
        refine lv_aload_n hx hb d_WK_loop_11 rfl (lv_at hl 1 rfl) ?_
        refine lv_aload_n hx hb d_WK_loop_12 rfl (lv_at hl 1 rfl) ?_
        refine cw_get (C := R_WK) (T := F_WK) (N := 13) (v := .ref (ad 1)) hx hb hts (in_WK _) hown hK hP 12 (by decide) rfl rfl 5 (by decide) (ht _ wC_192) rfl d_WK_loop_13 ?_
        refine cw_get (C := R_PR) (T := F_PR) (N := 8) (v := .ref (ad 3)) hx hb hts (in_PR _) hown hK hP 1 (by decide) rfl rfl 1 (by decide) (ht _ wC_82) rfl d_WK_loop_16 ?_
        refine lv_iload_n hx hb d_WK_loop_19 rfl (lv_at hl 2 rfl) ?_
        refine cw_iald hx hb hK hP 3 (by decide) rfl 0 rfl hq.1 d_WK_loop_20 ?_
        have hq := hq.2
        refine lv_aload_n hx hb d_WK_loop_21 rfl (lv_at hl 3 rfl) ?_
        refine lv_iload_n hx hb d_WK_loop_22 rfl (lv_at hl 4 rfl) ?_
        refine lv_iconst (v := 1) hx hb d_WK_loop_23 (by decide) ?_
        refine lv_iadd hx hb d_WK_loop_24 ?_
        refine va_calld (va_runV (As := [.int (gA σ 1 p1.toNatClampNeg), .ref (ad (15 + g2)), .int (p3 + 1)]) (rest := []) ⟨hx, hb, hml, hown, hts⟩ (hV hq) (cwV 3 hts (good_V wC_439 wC_441 wC_2 wC_48 wC_442) rfl rfl rfl (by decide +kernel) ⟨(show fV + 1 ≤ fV + 1 by omega), (show 8 + (5 + 11) + lV ≤ lV + 24 by omega)⟩) ⟨cP_blind, va_recv hK hP (ci := 4) (q0 := 12) rfl (wd_at (by decide) rfl), fun U hU hW => ⟨rfl, by rw [hU]; exact hP, va_K.moved hW.alike hK, hN.warm hW⟩⟩ rfl rfl hl.1 rfl (lv_room (Nat.le_of_ble_eq_true rfl)) d_WK_loop_25 ⟨Nat.le_of_ble_eq_true rfl, Nat.le_of_ble_eq_true rfl⟩) hS (fun q _ h => h) (fun q h => h) (fun r2 s3 t H locs ht0 hvm hq hB hz1 hk1 hS => ?_)
        obtain ⟨hP, -, -⟩ := hB
        rw [ht0] at hP
        refine lv_dstore (lv' := [(5, .double r2), (4, .int x4), (0, .ref (ad 12)), (1, .int p1), (2, .ref (ad (15 + g2))), (3, .int p3)]) hx hb d_WK_loop_28 hl (by decide) rfl (fun ls hl => ?_)
        refine lv_aload_n hx hb d_WK_loop_30 rfl (lv_at hl 2 rfl) ?_
        refine va_calli (va_runV (As := []) (rest := []) ⟨hx, hb, hml, hown, hts⟩ (c_WK_leaving (D := D) (cs := cs) hi hq) (cwV 0 hts (good_V wC_452 wC_454 wC_5 wC_48 wC_455) rfl rfl rfl (by decide +kernel) ⟨(show 0 + 1 ≤ fV + 1 by omega), (show 8 + (1 + 11) + 0 ≤ lV + 24 by omega)⟩) ⟨cP_blind, va_recv hK hP (ci := 4) (q0 := 12) rfl (wd_at (by decide) rfl), fun U hU hW => ⟨rfl, by rw [hU]; exact hP, va_K.moved hW.alike hK, hN.warm hW⟩⟩ rfl rfl hl.1 rfl (lv_room (Nat.le_of_ble_eq_true rfl)) d_WK_loop_31 ⟨Nat.le_of_ble_eq_true rfl, Nat.le_of_ble_eq_true rfl⟩) hS (fun q _ h => h) (fun q h => h) (fun r4 s5 t H locs ht0 hvm hq hB hz1 hk1 hS => ?_)
        obtain ⟨hP, -, -⟩ := hB
        rw [ht0] at hP
        refine lv_if_ne (tgt := 44) hx hb d_WK_loop_34 (by decide) (fun c6 => ?_) (fun c6 => ?_)
        · have hq := hq.2 c6
          refine lv_dconst0 hx hb d_WK_loop_44 ?_
          exact W.dret hx hb hr (fun t ht hW => ⟨⟨FP.dconst0, s5, rfl, hq, by rw [ht]; exact hP, va_K.moved hW.alike hK, hN.warm hW⟩, hS.F ht⟩) hS.2.2 d_WK_loop_45
        · have hq := hq.1 c6
          refine lv_dload hx hb d_WK_loop_37 (lv_at hl 0 rfl) ?_
          refine lv_dconst0 hx hb d_WK_loop_39 ?_
          refine lv_dcmp hx hb d_WK_loop_40 ?_
          refine lv_if_ne (tgt := 46) hx hb d_WK_loop_41 (by decide) (fun c7 => ?_) (fun c7 => ?_)
          · have hq := hq.2 c7
            refine lv_aload_n hx hb d_WK_loop_46 rfl (lv_at hl 2 rfl) ?_
            refine lv_aload_n hx hb d_WK_loop_47 rfl (lv_at hl 2 rfl) ?_
            refine cw_get (C := R_WK) (T := F_WK) (N := 13) (v := .ref (ad 1)) hx hb hts (in_WK _) hown hK hP 12 (by decide) rfl rfl 5 (by decide) (ht _ wC_192) rfl d_WK_loop_48 ?_
            refine cw_get (C := R_PR) (T := F_PR) (N := 8) (v := .ref (ad 4)) hx hb hts (in_PR _) hown hK hP 1 (by decide) rfl rfl 2 (by decide) (ht _ wC_85) rfl d_WK_loop_51 ?_
            refine lv_iload_n hx hb d_WK_loop_54 rfl (lv_at hl 3 rfl) ?_
            refine cw_iald hx hb hK hP 4 (by decide) rfl 0 rfl hq.1 d_WK_loop_55 ?_
            have hq := hq.2
            refine lv_aload_n hx hb d_WK_loop_56 rfl (lv_at hl 4 rfl) ?_
            refine lv_iload_n hx hb d_WK_loop_57 rfl (lv_at hl 5 rfl) ?_
            refine lv_iconst (v := 1) hx hb d_WK_loop_58 (by decide) ?_
            refine lv_iadd hx hb d_WK_loop_59 ?_
            refine va_calld (va_runV (As := [.int (gA s5 2 p1.toNatClampNeg), .ref (ad (15 + g2)), .int (p3 + 1)]) (rest := []) ⟨hx, hb, hml, hown, hts⟩ (hV hq) (cwV 3 hts (good_V wC_439 wC_441 wC_2 wC_48 wC_442) rfl rfl rfl (by decide +kernel) ⟨(show fV + 1 ≤ fV + 1 by omega), (show 8 + (5 + 11) + lV ≤ lV + 24 by omega)⟩) ⟨cP_blind, va_recv hK hP (ci := 4) (q0 := 12) rfl (wd_at (by decide) rfl), fun U hU hW => ⟨rfl, by rw [hU]; exact hP, va_K.moved hW.alike hK, hN.warm hW⟩⟩ rfl rfl hl.1 rfl (lv_room (Nat.le_of_ble_eq_true rfl)) d_WK_loop_60 ⟨Nat.le_of_ble_eq_true rfl, Nat.le_of_ble_eq_true rfl⟩) hS (fun q _ h => h) (fun q h => h) (fun r8 s9 t H locs ht0 hvm hq hB hz1 hk1 hS => ?_)
            obtain ⟨hP, -, -⟩ := hB
            rw [ht0] at hP
            refine lv_pop2_2 hx hb d_WK_loop_63 rfl ?_
            refine lv_aload_n hx hb d_WK_loop_64 rfl (lv_at hl 2 rfl) ?_
            refine va_calli (va_runV (As := []) (rest := []) ⟨hx, hb, hml, hown, hts⟩ (c_WK_leaving (D := D) (cs := cs) hi hq) (cwV 0 hts (good_V wC_452 wC_454 wC_5 wC_48 wC_455) rfl rfl rfl (by decide +kernel) ⟨(show 0 + 1 ≤ fV + 1 by omega), (show 8 + (1 + 11) + 0 ≤ lV + 24 by omega)⟩) ⟨cP_blind, va_recv hK hP (ci := 4) (q0 := 12) rfl (wd_at (by decide) rfl), fun U hU hW => ⟨rfl, by rw [hU]; exact hP, va_K.moved hW.alike hK, hN.warm hW⟩⟩ rfl rfl hl.1 rfl (lv_room (Nat.le_of_ble_eq_true rfl)) d_WK_loop_65 ⟨Nat.le_of_ble_eq_true rfl, Nat.le_of_ble_eq_true rfl⟩) hS (fun q _ h => h) (fun q h => h) (fun r10 s11 t H locs ht0 hvm hq hB hz1 hk1 hS => ?_)
            obtain ⟨hP, -, -⟩ := hB
            rw [ht0] at hP
            refine lv_if_eq (tgt := 73) hx hb d_WK_loop_68 (by decide) (fun c12 => ?_) (fun c12 => ?_)
            · have hq := hq.1 c12
              refine lv_iinc (v := x4 + 1) (lv' := [(4, .int (x4 + 1)), (5, .double r2), (0, .ref (ad 12)), (1, .int p1), (2, .ref (ad (15 + g2))), (3, .int p3)]) hx hb d_WK_loop_73 hl (k := 1) rfl rfl (by decide) rfl (fun ls hl => ?_)
              refine lv_goto (tgt := 3) hx hb d_WK_loop_76 (by decide) ?_
              exact ih (x4 + 1) s11 _ _ ls hq hP hS (lv_sub hl [0, 2, 3, 4, 5] rfl)
            · have hq := hq.2 c12
              refine lv_dconst0 hx hb d_WK_loop_71 ?_
              exact W.dret hx hb hr (fun t ht hW => ⟨⟨FP.dconst0, s11, rfl, hq, by rw [ht]; exact hP, va_K.moved hW.alike hK, hN.warm hW⟩, hS.F ht⟩) hS.2.2 d_WK_loop_72
          · have hq := hq.1 c7
            refine lv_dconst0 hx hb d_WK_loop_44 ?_
            exact W.dret hx hb hr (fun t ht hW => ⟨⟨FP.dconst0, s5, rfl, hq, by rw [ht]; exact hP, va_K.moved hW.alike hK, hN.warm hW⟩, hS.F ht⟩) hS.2.2 d_WK_loop_45
  refine lv_iconst (v := 0) hx hb d_WK_loop_0 (by decide) ?_
  refine lv_istore (lv' := [(4, .int 0), (0, .ref (ad 12)), (1, .int p1), (2, .ref (ad (15 + g2))), (3, .int p3)]) hx hb d_WK_loop_1 hl (by decide) rfl (fun ls hl => ?_)
  obtain ⟨fu, hq⟩ := hq
  exact loop_3 fu 0 σ _ _ ls hq hP hS (lv_sub hl [0, 1, 2, 3, 4] rfl)
def wp_WK_parameterBecomes (B : BT) (p1 : Int32) (p2 : UInt64) (g3 : Nat) (p4 : Int32) (σ : CS) (Q : UInt64 → CS → Prop) : Prop := (g3 < 9 ∧ (wp_EN_hasParameter g3 p1 σ (fun r1 s2 => ((r1 = 0 → (wp_WK_fail 4 s2 (fun r16 s17 => Q r16 s17))) ∧ (¬ r1 = 0 → (wp_EN_isByName g3 p1 s2 (fun r4 s5 => ((r4 = 0 → (vp_in p1 2 ∧ (∀ s15 : CS, s15 = sD s5 (10 + g3) (vf_upd (gD s5 (10 + g3)) p1.toNatClampNeg p2) → Q p2 s15))) ∧ (¬ r4 = 0 → (wp_WK_mayEnter  s5 (fun r7 s8 => ((r7 = 0 → Q FP.dconst0 s8) ∧ (¬ r7 = 0 → (vp_in p1 2 ∧ (∃ k10 : Nat, gC s8 g3 = some k10 ∧ (B (gA s8 (10 + g3) p1.toNatClampNeg) p2 k10 p4 s8 (fun r12 s13 => (∀ s14 : CS, s14 = sI s13 6 ((gI s13 6) - 1) → Q r12 s14))))))))))))))))))
set_option maxHeartbeats 4000000 in
set_option maxRecDepth 100000 in
theorem c_WK_parameterBecomes {l : Launch} {D : va_G} {cs : CI} {ad : Nat → Nat} (hi : aI ad 51) {B : BT} {fB lB : Nat} (hfB : 5 ≤ fB) (hlB : 100 ≤ lB) (hB : ∀ {n : Int32} {x : UInt64} {h : Nat} {dp : Int32} {σ : CS} {Q : UInt64 → CS → Prop}, B n x h dp σ Q → Met l y_WK_become (.code y_WK_become b_WK_become 11 (some .double) :: wC) ({ frames := fB, cells := 0, slots := 0, locals := lB }) (va_Pc [.ref (ad 12), .int n, .double x, .ref (ad (15 + h)), .int dp] (cP D cs ad σ)) (va_Qd Q (cP D cs ad) (aK ad 51)) 0 0 (aK ad 51)) {p1 : Int32} {p2 : UInt64} {g3 : Nat} {p4 : Int32} {σ : CS} {Q : UInt64 → CS → Prop} (hq : wp_WK_parameterBecomes B p1 p2 g3 p4 σ Q) : Met l y_WK_parameterBecomes (.code y_WK_parameterBecomes b_WK_parameterBecomes 8 (some .double) :: wC) ({ frames := fB + 1, cells := 0, slots := 0, locals := lB + 30 }) (va_Pc [.ref (ad 12), .int p1, .double p2, .ref (ad (15 + g3)), .int p4] (cP D cs ad σ)) (va_Qd Q (cP D cs ad) (aK ad 51)) 0 0 (aK ad 51) := by
  refine Met.ofW (cc := b_WK_parameterBecomes) (maxL := 8) (ret := (some .double)) (by decide) rfl ?_
  intro p e s m args below meth c s₁ B hml hv
  obtain ⟨rfl, hP, hK, hN⟩ := hv
  have hx := B.exec
  have hb := B.bytes
  have hr := B.returns
  have hts := atoms_spec (ws := .code y_WK_parameterBecomes b_WK_parameterBecomes 8 (some .double) :: wC) B.pre
  have ht : ∀ w ∈ wC, w.before _ s = true := fun w h => hts w (List.mem_cons_of_mem _ h)
  have hown : s.vm.findClass R_WK = some m.cls := findClass_of_methodNamed B.named
  have hlocks := B.notSynchronized
  have hS : va_S (aK ad 51) s.heap s.heap [] := va_S.rf
  have hl := lv_entry ([.ref (ad 12), .int p1, .double p2, .ref (ad (15 + g3)), .int p4]) (n := 8) (Nat.le_of_ble_eq_true rfl)
  rw [lg_entry_eq]
  generalize (lg_sl ([.ref (ad 12), .int p1, .double p2, .ref (ad (15 + g3)), .int p4]) ++ List.replicate (8 - (lg_sl ([.ref (ad 12), .int p1, .double p2, .ref (ad (15 + g3)), .int p4])).length) Slot.unset).toArray = ls at hl ⊢
  have hl : lv_has ls 8 [(0, .ref (ad 12)), (1, .int p1), (2, .double p2), (4, .ref (ad (15 + g3))), (5, .int p4)] := hl
  unfold wp_WK_parameterBecomes at hq
  have hh_g3 : g3 < 9 := hq.1
  have hq := hq.2
  have hh8 : 8 < 9 := by decide
  refine lv_aload hx hb d_WK_parameterBecomes_0 (lv_at hl 3 rfl) ?_
  refine lv_iload_n hx hb d_WK_parameterBecomes_2 rfl (lv_at hl 1 rfl) ?_
  refine va_calli (va_runV (As := [.int p1]) (rest := []) ⟨hx, hb, hml, hown, hts⟩ (c_EN_hasParameter (D := D) (cs := cs) hi hq) (cwV 1 hts (good_V wC_460 wC_461 wC_462 wC_49 wC_463) rfl rfl rfl (by decide +kernel) ⟨(show 0 + 1 ≤ fB + 1 by omega), (show 8 + (2 + 11) + 0 ≤ lB + 30 by omega)⟩) ⟨cP_blind, va_recv hK hP (ci := 1) (q0 := (15 + g3)) rfl (wd_at (by omega) (ct_o hh_g3)), fun U hU hW => ⟨rfl, by rw [hU]; exact hP, va_K.moved hW.alike hK, hN.warm hW⟩⟩ rfl rfl hl.1 rfl (lv_room (Nat.le_of_ble_eq_true rfl)) d_WK_parameterBecomes_3 ⟨Nat.le_of_ble_eq_true rfl, Nat.le_of_ble_eq_true rfl⟩) hS (fun q _ h => h) (fun q h => h) (fun r1 s2 t H locs ht0 hvm hq hB hz1 hk1 hS => ?_)
  obtain ⟨hP, -, -⟩ := hB
  rw [ht0] at hP
  refine lv_if_ne (tgt := 15) hx hb d_WK_parameterBecomes_6 (by decide) (fun c3 => ?_) (fun c3 => ?_)
  · have hq := hq.2 c3
    refine lv_aload hx hb d_WK_parameterBecomes_15 (lv_at hl 3 rfl) ?_
    refine lv_iload_n hx hb d_WK_parameterBecomes_17 rfl (lv_at hl 1 rfl) ?_
    refine va_calli (va_runV (As := [.int p1]) (rest := []) ⟨hx, hb, hml, hown, hts⟩ (c_EN_isByName (D := D) (cs := cs) hi hq) (cwV 1 hts (good_V wC_468 wC_469 wC_470 wC_49 wC_471) rfl rfl rfl (by decide +kernel) ⟨(show 0 + 1 ≤ fB + 1 by omega), (show 8 + (2 + 11) + 0 ≤ lB + 30 by omega)⟩) ⟨cP_blind, va_recv hK hP (ci := 1) (q0 := (15 + g3)) rfl (wd_at (by omega) (ct_o hh_g3)), fun U hU hW => ⟨rfl, by rw [hU]; exact hP, va_K.moved hW.alike hK, hN.warm hW⟩⟩ rfl rfl hl.1 rfl (lv_room (Nat.le_of_ble_eq_true rfl)) d_WK_parameterBecomes_18 ⟨Nat.le_of_ble_eq_true rfl, Nat.le_of_ble_eq_true rfl⟩) hS (fun q _ h => h) (fun q h => h) (fun r4 s5 t H locs ht0 hvm hq hB hz1 hk1 hS => ?_)
    obtain ⟨hP, -, -⟩ := hB
    rw [ht0] at hP
    refine lv_if_ne (tgt := 34) hx hb d_WK_parameterBecomes_21 (by decide) (fun c6 => ?_) (fun c6 => ?_)
    · have hq := hq.2 c6
      refine lv_aload_n hx hb d_WK_parameterBecomes_34 rfl (lv_at hl 0 rfl) ?_
      refine va_calli (va_runV (As := []) (rest := []) ⟨hx, hb, hml, hown, hts⟩ (c_WK_mayEnter (D := D) (cs := cs) hi hq) (cwV 0 hts (good_V wC_472 wC_474 wC_8 wC_48 wC_475) rfl rfl rfl (by decide +kernel) ⟨(show 1 + 1 ≤ fB + 1 by omega), (show 8 + (1 + 11) + 32 ≤ lB + 30 by omega)⟩) ⟨cP_blind, va_recv hK hP (ci := 4) (q0 := 12) rfl (wd_at (by decide) rfl), fun U hU hW => ⟨rfl, by rw [hU]; exact hP, va_K.moved hW.alike hK, hN.warm hW⟩⟩ rfl rfl hl.1 rfl (lv_room (Nat.le_of_ble_eq_true rfl)) d_WK_parameterBecomes_35 ⟨Nat.le_of_ble_eq_true rfl, Nat.le_of_ble_eq_true rfl⟩) hS (fun q _ h => h) (fun q h => h) (fun r7 s8 t H locs ht0 hvm hq hB hz1 hk1 hS => ?_)
      obtain ⟨hP, -, -⟩ := hB
      rw [ht0] at hP
      refine lv_if_ne (tgt := 43) hx hb d_WK_parameterBecomes_38 (by decide) (fun c9 => ?_) (fun c9 => ?_)
      · have hq := hq.2 c9
        refine lv_aload_n hx hb d_WK_parameterBecomes_43 rfl (lv_at hl 0 rfl) ?_
        refine lv_aload hx hb d_WK_parameterBecomes_44 (lv_at hl 3 rfl) ?_
        refine cw_get (C := R_EN) (T := F_EN) (N := 6) (v := .ref (ad (24 + g3))) hx hb hts (in_EN _) hown hK hP (15 + g3) (by omega) (ct_o hh_g3) rfl 1 (by decide) (ht _ wC_161) rfl d_WK_parameterBecomes_46 ?_
        refine lv_iload_n hx hb d_WK_parameterBecomes_49 rfl (lv_at hl 1 rfl) ?_
        refine cw_iald hx hb hK hP (24 + g3) (by omega) (ct_g hh_g3) 0 rfl hq.1 d_WK_parameterBecomes_50 ?_
        have hq := hq.2
        refine lv_dload_n hx hb d_WK_parameterBecomes_51 rfl (lv_at hl 2 rfl) ?_
        refine lv_aload hx hb d_WK_parameterBecomes_52 (lv_at hl 3 rfl) ?_
        refine cw_get (C := R_EN) (T := F_EN) (N := 6) (v := cv ad (gC s8 g3)) hx hb hts (in_EN _) hown hK hP (15 + g3) (by omega) (ct_o hh_g3) rfl 0 (by decide) (ht _ wC_159) rfl d_WK_parameterBecomes_54 ?_
        obtain ⟨k10, e11, hq⟩ := hq
        rw [e11, cv_some]
        refine lv_iload hx hb d_WK_parameterBecomes_57 (lv_at hl 4 rfl) ?_
        refine va_calld (va_runV (As := [.int (gA s8 (10 + g3) p1.toNatClampNeg), .double p2, .ref (ad (15 + k10)), .int p4]) (rest := []) ⟨hx, hb, hml, hown, hts⟩ (hB hq) (cwV 4 hts (good_V wC_512 wC_514 wC_11 wC_48 wC_515) rfl rfl rfl (by decide +kernel) ⟨(show fB + 1 ≤ fB + 1 by omega), (show 8 + (11 + 11) + lB ≤ lB + 30 by omega)⟩) ⟨cP_blind, va_recv hK hP (ci := 4) (q0 := 12) rfl (wd_at (by decide) rfl), fun U hU hW => ⟨rfl, by rw [hU]; exact hP, va_K.moved hW.alike hK, hN.warm hW⟩⟩ rfl rfl hl.1 rfl (lv_room (Nat.le_of_ble_eq_true rfl)) d_WK_parameterBecomes_59 ⟨Nat.le_of_ble_eq_true rfl, Nat.le_of_ble_eq_true rfl⟩) hS (fun q _ h => h) (fun q h => h) (fun r12 s13 t H locs ht0 hvm hq hB hz1 hk1 hS => ?_)
        obtain ⟨hP, -, -⟩ := hB
        rw [ht0] at hP
        refine lv_dstore (lv' := [(6, .double r12), (0, .ref (ad 12)), (1, .int p1), (2, .double p2), (4, .ref (ad (15 + g3))), (5, .int p4)]) hx hb d_WK_parameterBecomes_62 hl (by decide) rfl (fun ls hl => ?_)
        refine lv_aload_n hx hb d_WK_parameterBecomes_64 rfl (lv_at hl 1 rfl) ?_
        refine lv_dup hx hb d_WK_parameterBecomes_65 rfl ?_
        refine cw_get (C := R_WK) (T := F_WK) (N := 13) (v := .int (gI s13 6)) hx hb hts (in_WK _) hown hK hP 12 (by decide) rfl rfl 11 (by decide) (ht _ wC_198) rfl d_WK_parameterBecomes_66 ?_
        refine lv_iconst (v := 1) hx hb d_WK_parameterBecomes_69 (by decide) ?_
        refine lv_isub hx hb d_WK_parameterBecomes_70 ?_
        refine cw_put (C := R_WK) (T := F_WK) (N := 13) (ty := .int) (v := .int ((gI s13 6) - 1)) hx hb hts (in_WK _) t_WK tok_WK n_WK hown hK hP hi hS 12 (by decide) rfl rfl 11 (by decide) (ht _ wC_198) rfl (by decide +kernel) rfl rfl (Nat.le_of_ble_eq_true rfl) up_WK_openEnvironments d_WK_parameterBecomes_71 (fun H locs hP hS => ?_)
        obtain ⟨s14, e_s14⟩ : ∃ z, z = sI s13 6 ((gI s13 6) - 1) := ⟨_, rfl⟩
        rw [← e_s14] at hP
        have hq := hq s14 e_s14
        refine lv_dload hx hb d_WK_parameterBecomes_74 (lv_at hl 0 rfl) ?_
        exact W.dret hx hb hr (fun t ht hW => ⟨⟨r12, s14, rfl, hq, by rw [ht]; exact hP, va_K.moved hW.alike hK, hN.warm hW⟩, hS.F ht⟩) hS.2.2 d_WK_parameterBecomes_76
      · have hq := hq.1 c9
        refine lv_dconst0 hx hb d_WK_parameterBecomes_41 ?_
        exact W.dret hx hb hr (fun t ht hW => ⟨⟨FP.dconst0, s8, rfl, hq, by rw [ht]; exact hP, va_K.moved hW.alike hK, hN.warm hW⟩, hS.F ht⟩) hS.2.2 d_WK_parameterBecomes_42
    · have hq := hq.1 c6
      refine lv_aload hx hb d_WK_parameterBecomes_24 (lv_at hl 3 rfl) ?_
      refine cw_get (C := R_EN) (T := F_EN) (N := 6) (v := .ref (ad (33 + g3))) hx hb hts (in_EN _) hown hK hP (15 + g3) (by omega) (ct_o hh_g3) rfl 2 (by decide) (ht _ wC_163) rfl d_WK_parameterBecomes_26 ?_
      refine lv_iload_n hx hb d_WK_parameterBecomes_29 rfl (lv_at hl 1 rfl) ?_
      refine lv_dload_n hx hb d_WK_parameterBecomes_30 rfl (lv_at hl 2 rfl) ?_
      refine cw_dast hx hb hK hP hi hS (33 + g3) (by omega) (ct_v hh_g3) 1 rfl hq.1 (upd_10 hh_g3) d_WK_parameterBecomes_31 (fun H locs hP hS => ?_)
      have hq := hq.2
      obtain ⟨s15, e_s15⟩ : ∃ z, z = sD s5 (10 + g3) (vf_upd (gD s5 (10 + g3)) p1.toNatClampNeg p2) := ⟨_, rfl⟩
      rw [← e_s15] at hP
      have hq := hq s15 e_s15
      refine lv_dload_n hx hb d_WK_parameterBecomes_32 rfl (lv_at hl 2 rfl) ?_
      exact W.dret hx hb hr (fun t ht hW => ⟨⟨p2, s15, rfl, hq, by rw [ht]; exact hP, va_K.moved hW.alike hK, hN.warm hW⟩, hS.F ht⟩) hS.2.2 d_WK_parameterBecomes_33
  · have hq := hq.1 c3
    refine lv_aload_n hx hb d_WK_parameterBecomes_9 rfl (lv_at hl 0 rfl) ?_
    refine lv_iconst (v := 4) hx hb d_WK_parameterBecomes_10 (by decide) ?_
    refine va_calld (va_runV (As := [.int 4]) (rest := []) ⟨hx, hb, hml, hown, hts⟩ (c_WK_fail (D := D) (cs := cs) hi hq) (cwV 1 hts (good_V wC_464 wC_466 wC_7 wC_48 wC_467) rfl rfl rfl (by decide +kernel) ⟨(show 0 + 1 ≤ fB + 1 by omega), (show 8 + (2 + 11) + 0 ≤ lB + 30 by omega)⟩) ⟨cP_blind, va_recv hK hP (ci := 4) (q0 := 12) rfl (wd_at (by decide) rfl), fun U hU hW => ⟨rfl, by rw [hU]; exact hP, va_K.moved hW.alike hK, hN.warm hW⟩⟩ rfl rfl hl.1 rfl (lv_room (Nat.le_of_ble_eq_true rfl)) d_WK_parameterBecomes_11 ⟨Nat.le_of_ble_eq_true rfl, Nat.le_of_ble_eq_true rfl⟩) hS (fun q _ h => h) (fun q h => h) (fun r16 s17 t H locs ht0 hvm hq hB hz1 hk1 hS => ?_)
    obtain ⟨hP, -, -⟩ := hB
    rw [ht0] at hP
    exact W.dret hx hb hr (fun t ht hW => ⟨⟨r16, s17, rfl, hq, by rw [ht]; exact hP, va_K.moved hW.alike hK, hN.warm hW⟩, hS.F ht⟩) hS.2.2 d_WK_parameterBecomes_14
def wp_WK_set (V : VT) (B : BT) (p1 : Int32) (g2 : Nat) (p3 : Int32) (σ : CS) (Q : UInt64 → CS → Prop) : Prop := (g2 < 9 ∧ (vp_in p1 48 ∧ (wp_PR_canBeSet (gA σ 1 p1.toNatClampNeg) σ (fun r1 s2 => ((r1 = 0 → (wp_WK_fail 6 s2 (fun r11 s12 => Q r11 s12))) ∧ (¬ r1 = 0 → (vp_in p1 48 ∧ (V (gA s2 2 p1.toNatClampNeg) g2 (p3 + 1) s2 (fun r4 s5 => (wp_WK_leaving  s5 (fun r6 s7 => ((r6 = 0 → (B (gA σ 1 p1.toNatClampNeg) r4 g2 p3 s7 (fun r9 s10 => Q r9 s10))) ∧ (¬ r6 = 0 → Q FP.dconst0 s7)))))))))))))
set_option maxHeartbeats 4000000 in
set_option maxRecDepth 100000 in
theorem c_WK_set {l : Launch} {D : va_G} {cs : CI} {ad : Nat → Nat} (hi : aI ad 51) {V : VT} {B : BT} {fV lV fB lB : Nat} (hf : 5 ≤ fV) (hlo : 100 ≤ lV) (hVB : fV ≤ fB) (hlVB : lV ≤ lB) (hV : ∀ {n : Int32} {h : Nat} {dp : Int32} {σ : CS} {Q : UInt64 → CS → Prop}, V n h dp σ Q → Met l y_WK_value (.code y_WK_value b_WK_value 5 (some .double) :: wC) ({ frames := fV, cells := 0, slots := 0, locals := lV }) (va_Pc [.ref (ad 12), .int n, .ref (ad (15 + h)), .int dp] (cP D cs ad σ)) (va_Qd Q (cP D cs ad) (aK ad 51)) 0 0 (aK ad 51)) (hB : ∀ {n : Int32} {x : UInt64} {h : Nat} {dp : Int32} {σ : CS} {Q : UInt64 → CS → Prop}, B n x h dp σ Q → Met l y_WK_become (.code y_WK_become b_WK_become 11 (some .double) :: wC) ({ frames := fB, cells := 0, slots := 0, locals := lB }) (va_Pc [.ref (ad 12), .int n, .double x, .ref (ad (15 + h)), .int dp] (cP D cs ad σ)) (va_Qd Q (cP D cs ad) (aK ad 51)) 0 0 (aK ad 51)) {p1 : Int32} {g2 : Nat} {p3 : Int32} {σ : CS} {Q : UInt64 → CS → Prop} (hq : wp_WK_set V B p1 g2 p3 σ Q) : Met l y_WK_set (.code y_WK_set b_WK_set 7 (some .double) :: wC) ({ frames := fB + 1, cells := 0, slots := 0, locals := lB + 30 }) (va_Pc [.ref (ad 12), .int p1, .ref (ad (15 + g2)), .int p3] (cP D cs ad σ)) (va_Qd Q (cP D cs ad) (aK ad 51)) 0 0 (aK ad 51) := by
  refine Met.ofW (cc := b_WK_set) (maxL := 7) (ret := (some .double)) (by decide) rfl ?_
  intro p e s m args below meth c s₁ B hml hv
  obtain ⟨rfl, hP, hK, hN⟩ := hv
  have hx := B.exec
  have hb := B.bytes
  have hr := B.returns
  have hts := atoms_spec (ws := .code y_WK_set b_WK_set 7 (some .double) :: wC) B.pre
  have ht : ∀ w ∈ wC, w.before _ s = true := fun w h => hts w (List.mem_cons_of_mem _ h)
  have hown : s.vm.findClass R_WK = some m.cls := findClass_of_methodNamed B.named
  have hlocks := B.notSynchronized
  have hS : va_S (aK ad 51) s.heap s.heap [] := va_S.rf
  have hl := lv_entry ([.ref (ad 12), .int p1, .ref (ad (15 + g2)), .int p3]) (n := 7) (Nat.le_of_ble_eq_true rfl)
  rw [lg_entry_eq]
  generalize (lg_sl ([.ref (ad 12), .int p1, .ref (ad (15 + g2)), .int p3]) ++ List.replicate (7 - (lg_sl ([.ref (ad 12), .int p1, .ref (ad (15 + g2)), .int p3])).length) Slot.unset).toArray = ls at hl ⊢
  have hl : lv_has ls 7 [(0, .ref (ad 12)), (1, .int p1), (2, .ref (ad (15 + g2))), (3, .int p3)] := hl
  unfold wp_WK_set at hq
  have hh_g2 : g2 < 9 := hq.1
  have hq := hq.2
  have hh8 : 8 < 9 := by decide
  refine lv_aload_n hx hb d_WK_set_0 rfl (lv_at hl 0 rfl) ?_
  refine cw_get (C := R_WK) (T := F_WK) (N := 13) (v := .ref (ad 1)) hx hb hts (in_WK _) hown hK hP 12 (by decide) rfl rfl 5 (by decide) (ht _ wC_192) rfl d_WK_set_1 ?_
  refine cw_get (C := R_PR) (T := F_PR) (N := 8) (v := .ref (ad 3)) hx hb hts (in_PR _) hown hK hP 1 (by decide) rfl rfl 1 (by decide) (ht _ wC_82) rfl d_WK_set_4 ?_
  refine lv_iload_n hx hb d_WK_set_7 rfl (lv_at hl 1 rfl) ?_
  refine cw_iald hx hb hK hP 3 (by decide) rfl 0 rfl hq.1 d_WK_set_8 ?_
  have hq := hq.2
  refine lv_istore (lv' := [(4, .int (gA σ 1 p1.toNatClampNeg)), (0, .ref (ad 12)), (1, .int p1), (2, .ref (ad (15 + g2))), (3, .int p3)]) hx hb d_WK_set_9 hl (by decide) rfl (fun ls hl => ?_)
  refine lv_aload_n hx hb d_WK_set_11 rfl (lv_at hl 1 rfl) ?_
  refine cw_get (C := R_WK) (T := F_WK) (N := 13) (v := .ref (ad 1)) hx hb hts (in_WK _) hown hK hP 12 (by decide) rfl rfl 5 (by decide) (ht _ wC_192) rfl d_WK_set_12 ?_
  refine lv_iload hx hb d_WK_set_15 (lv_at hl 0 rfl) ?_
  refine va_calli (va_runV (As := [.int (gA σ 1 p1.toNatClampNeg)]) (rest := []) ⟨hx, hb, hml, hown, hts⟩ (c_PR_canBeSet (D := D) (cs := cs) hi hq) (cwV 1 hts (good_V wC_508 wC_509 wC_510 wC_45 wC_511) rfl rfl rfl (by decide +kernel) ⟨(show 0 + 1 ≤ fB + 1 by omega), (show 8 + (3 + 11) + 0 ≤ lB + 30 by omega)⟩) ⟨cP_blind, va_recv hK hP (ci := 2) (q0 := 1) rfl (wd_at (by decide) rfl), fun U hU hW => ⟨rfl, by rw [hU]; exact hP, va_K.moved hW.alike hK, hN.warm hW⟩⟩ rfl rfl hl.1 rfl (lv_room (Nat.le_of_ble_eq_true rfl)) d_WK_set_17 ⟨Nat.le_of_ble_eq_true rfl, Nat.le_of_ble_eq_true rfl⟩) hS (fun q _ h => h) (fun q h => h) (fun r1 s2 t H locs ht0 hvm hq hB hz1 hk1 hS => ?_)
  obtain ⟨hP, -, -⟩ := hB
  rw [ht0] at hP
  refine lv_if_ne (tgt := 30) hx hb d_WK_set_20 (by decide) (fun c3 => ?_) (fun c3 => ?_)
  · have hq := hq.2 c3
    refine lv_aload_n hx hb d_WK_set_30 rfl (lv_at hl 1 rfl) ?_
    refine lv_aload_n hx hb d_WK_set_31 rfl (lv_at hl 1 rfl) ?_
    refine cw_get (C := R_WK) (T := F_WK) (N := 13) (v := .ref (ad 1)) hx hb hts (in_WK _) hown hK hP 12 (by decide) rfl rfl 5 (by decide) (ht _ wC_192) rfl d_WK_set_32 ?_
    refine cw_get (C := R_PR) (T := F_PR) (N := 8) (v := .ref (ad 4)) hx hb hts (in_PR _) hown hK hP 1 (by decide) rfl rfl 2 (by decide) (ht _ wC_85) rfl d_WK_set_35 ?_
    refine lv_iload_n hx hb d_WK_set_38 rfl (lv_at hl 2 rfl) ?_
    refine cw_iald hx hb hK hP 4 (by decide) rfl 0 rfl hq.1 d_WK_set_39 ?_
    have hq := hq.2
    refine lv_aload_n hx hb d_WK_set_40 rfl (lv_at hl 3 rfl) ?_
    refine lv_iload_n hx hb d_WK_set_41 rfl (lv_at hl 4 rfl) ?_
    refine lv_iconst (v := 1) hx hb d_WK_set_42 (by decide) ?_
    refine lv_iadd hx hb d_WK_set_43 ?_
    refine va_calld (va_runV (As := [.int (gA s2 2 p1.toNatClampNeg), .ref (ad (15 + g2)), .int (p3 + 1)]) (rest := []) ⟨hx, hb, hml, hown, hts⟩ (hV hq) (cwV 3 hts (good_V wC_439 wC_441 wC_2 wC_48 wC_442) rfl rfl rfl (by decide +kernel) ⟨(show fV + 1 ≤ fB + 1 by omega), (show 8 + (5 + 11) + lV ≤ lB + 30 by omega)⟩) ⟨cP_blind, va_recv hK hP (ci := 4) (q0 := 12) rfl (wd_at (by decide) rfl), fun U hU hW => ⟨rfl, by rw [hU]; exact hP, va_K.moved hW.alike hK, hN.warm hW⟩⟩ rfl rfl hl.1 rfl (lv_room (Nat.le_of_ble_eq_true rfl)) d_WK_set_44 ⟨Nat.le_of_ble_eq_true rfl, Nat.le_of_ble_eq_true rfl⟩) hS (fun q _ h => h) (fun q h => h) (fun r4 s5 t H locs ht0 hvm hq hB hz1 hk1 hS => ?_)
    obtain ⟨hP, -, -⟩ := hB
    rw [ht0] at hP
    refine lv_dstore (lv' := [(5, .double r4), (4, .int (gA σ 1 p1.toNatClampNeg)), (0, .ref (ad 12)), (1, .int p1), (2, .ref (ad (15 + g2))), (3, .int p3)]) hx hb d_WK_set_47 hl (by decide) rfl (fun ls hl => ?_)
    refine lv_aload_n hx hb d_WK_set_49 rfl (lv_at hl 2 rfl) ?_
    refine va_calli (va_runV (As := []) (rest := []) ⟨hx, hb, hml, hown, hts⟩ (c_WK_leaving (D := D) (cs := cs) hi hq) (cwV 0 hts (good_V wC_452 wC_454 wC_5 wC_48 wC_455) rfl rfl rfl (by decide +kernel) ⟨(show 0 + 1 ≤ fB + 1 by omega), (show 8 + (1 + 11) + 0 ≤ lB + 30 by omega)⟩) ⟨cP_blind, va_recv hK hP (ci := 4) (q0 := 12) rfl (wd_at (by decide) rfl), fun U hU hW => ⟨rfl, by rw [hU]; exact hP, va_K.moved hW.alike hK, hN.warm hW⟩⟩ rfl rfl hl.1 rfl (lv_room (Nat.le_of_ble_eq_true rfl)) d_WK_set_50 ⟨Nat.le_of_ble_eq_true rfl, Nat.le_of_ble_eq_true rfl⟩) hS (fun q _ h => h) (fun q h => h) (fun r6 s7 t H locs ht0 hvm hq hB hz1 hk1 hS => ?_)
    obtain ⟨hP, -, -⟩ := hB
    rw [ht0] at hP
    refine lv_if_eq (tgt := 60) hx hb d_WK_set_53 (by decide) (fun c8 => ?_) (fun c8 => ?_)
    · have hq := hq.1 c8
      refine lv_aload_n hx hb d_WK_set_60 rfl (lv_at hl 2 rfl) ?_
      refine lv_iload hx hb d_WK_set_61 (lv_at hl 1 rfl) ?_
      refine lv_dload hx hb d_WK_set_63 (lv_at hl 0 rfl) ?_
      refine lv_aload_n hx hb d_WK_set_65 rfl (lv_at hl 4 rfl) ?_
      refine lv_iload_n hx hb d_WK_set_66 rfl (lv_at hl 5 rfl) ?_
      refine va_calld (va_runV (As := [.int (gA σ 1 p1.toNatClampNeg), .double r4, .ref (ad (15 + g2)), .int p3]) (rest := []) ⟨hx, hb, hml, hown, hts⟩ (hB hq) (cwV 4 hts (good_V wC_512 wC_514 wC_11 wC_48 wC_515) rfl rfl rfl (by decide +kernel) ⟨(show fB + 1 ≤ fB + 1 by omega), (show 8 + (11 + 11) + lB ≤ lB + 30 by omega)⟩) ⟨cP_blind, va_recv hK hP (ci := 4) (q0 := 12) rfl (wd_at (by decide) rfl), fun U hU hW => ⟨rfl, by rw [hU]; exact hP, va_K.moved hW.alike hK, hN.warm hW⟩⟩ rfl rfl hl.1 rfl (lv_room (Nat.le_of_ble_eq_true rfl)) d_WK_set_67 ⟨Nat.le_of_ble_eq_true rfl, Nat.le_of_ble_eq_true rfl⟩) hS (fun q _ h => h) (fun q h => h) (fun r9 s10 t H locs ht0 hvm hq hB hz1 hk1 hS => ?_)
      obtain ⟨hP, -, -⟩ := hB
      rw [ht0] at hP
      exact W.dret hx hb hr (fun t ht hW => ⟨⟨r9, s10, rfl, hq, by rw [ht]; exact hP, va_K.moved hW.alike hK, hN.warm hW⟩, hS.F ht⟩) hS.2.2 d_WK_set_70
    · have hq := hq.2 c8
      refine lv_dconst0 hx hb d_WK_set_56 ?_
      refine lv_goto (tgt := 70) hx hb d_WK_set_57 (by decide) ?_
      exact W.dret hx hb hr (fun t ht hW => ⟨⟨FP.dconst0, s7, rfl, hq, by rw [ht]; exact hP, va_K.moved hW.alike hK, hN.warm hW⟩, hS.F ht⟩) hS.2.2 d_WK_set_70
  · have hq := hq.1 c3
    refine lv_aload_n hx hb d_WK_set_23 rfl (lv_at hl 1 rfl) ?_
    refine lv_bipush (v := 6) hx hb d_WK_set_24 (by decide) ?_
    refine va_calld (va_runV (As := [.int 6]) (rest := []) ⟨hx, hb, hml, hown, hts⟩ (c_WK_fail (D := D) (cs := cs) hi hq) (cwV 1 hts (good_V wC_464 wC_466 wC_7 wC_48 wC_467) rfl rfl rfl (by decide +kernel) ⟨(show 0 + 1 ≤ fB + 1 by omega), (show 8 + (2 + 11) + 0 ≤ lB + 30 by omega)⟩) ⟨cP_blind, va_recv hK hP (ci := 4) (q0 := 12) rfl (wd_at (by decide) rfl), fun U hU hW => ⟨rfl, by rw [hU]; exact hP, va_K.moved hW.alike hK, hN.warm hW⟩⟩ rfl rfl hl.1 rfl (lv_room (Nat.le_of_ble_eq_true rfl)) d_WK_set_26 ⟨Nat.le_of_ble_eq_true rfl, Nat.le_of_ble_eq_true rfl⟩) hS (fun q _ h => h) (fun q h => h) (fun r11 s12 t H locs ht0 hvm hq hB hz1 hk1 hS => ?_)
    obtain ⟨hP, -, -⟩ := hB
    rw [ht0] at hP
    exact W.dret hx hb hr (fun t ht hW => ⟨⟨r11, s12, rfl, hq, by rw [ht]; exact hP, va_K.moved hW.alike hK, hN.warm hW⟩, hS.F ht⟩) hS.2.2 d_WK_set_29
def wp_WK_become (V : VT) (B : BT) (p1 : Int32) (p2 : UInt64) (g3 : Nat) (p4 : Int32) (σ : CS) (Q : UInt64 → CS → Prop) : Prop := (g3 < 9 ∧ (vp_in p1 48 ∧ (vp_in p1 48 ∧ (((gA σ 0 p1.toNatClampNeg) = 1 → (wp_ST_assign (gA σ 1 p1.toNatClampNeg) p2 σ (fun r2 s3 => Q r2 s3))) ∧ (¬ (gA σ 0 p1.toNatClampNeg) = 1 → (((gA σ 0 p1.toNatClampNeg) = 2 → (V (gA σ 1 p1.toNatClampNeg) g3 (p4 + 1) σ (fun r5 s6 => (wp_WK_leaving  s6 (fun r7 s8 => ((r7 = 0 → (vp_in p1 48 ∧ (V (gA s8 2 p1.toNatClampNeg) g3 (p4 + 1) s8 (fun r10 s11 => (wp_WK_leaving  s11 (fun r12 s13 => ((r12 = 0 → (wp_NF_rounded r5 s13 (fun r15 s16 => (wp_NF_rounded r10 s16 (fun r17 s18 => (wp_WK_elementBecomes r15 r17 p2 s18 (fun r19 s20 => Q r19 s20))))))) ∧ (¬ r12 = 0 → Q FP.dconst0 s13)))))))) ∧ (¬ r7 = 0 → Q FP.dconst0 s8))))))) ∧ (¬ (gA σ 0 p1.toNatClampNeg) = 2 → (((gA σ 0 p1.toNatClampNeg) = 10 → (wp_WK_parameterBecomes B (gA σ 1 p1.toNatClampNeg) p2 g3 p4 σ (fun r22 s23 => Q r22 s23))) ∧ (¬ (gA σ 0 p1.toNatClampNeg) = 10 → (((gA σ 0 p1.toNatClampNeg) = 11 → (wp_WK_localBecomes (gA σ 1 p1.toNatClampNeg) p2 g3 σ (fun r25 s26 => Q r25 s26))) ∧ (¬ (gA σ 0 p1.toNatClampNeg) = 11 → (wp_WK_fail 6 σ (fun r27 s28 => Q r27 s28)))))))))))))
set_option maxHeartbeats 4000000 in
set_option maxRecDepth 100000 in
theorem c_WK_become {l : Launch} {D : va_G} {cs : CI} {ad : Nat → Nat} (hi : aI ad 51) {V : VT} {B : BT} {fV lV fB lB : Nat} (hf : 5 ≤ fV) (hlo : 100 ≤ lV) (hVB : fV ≤ fB) (hlVB : lV ≤ lB) (hfB : 5 ≤ fB) (hlB : 100 ≤ lB) (hV : ∀ {n : Int32} {h : Nat} {dp : Int32} {σ : CS} {Q : UInt64 → CS → Prop}, V n h dp σ Q → Met l y_WK_value (.code y_WK_value b_WK_value 5 (some .double) :: wC) ({ frames := fV, cells := 0, slots := 0, locals := lV }) (va_Pc [.ref (ad 12), .int n, .ref (ad (15 + h)), .int dp] (cP D cs ad σ)) (va_Qd Q (cP D cs ad) (aK ad 51)) 0 0 (aK ad 51)) (hB : ∀ {n : Int32} {x : UInt64} {h : Nat} {dp : Int32} {σ : CS} {Q : UInt64 → CS → Prop}, B n x h dp σ Q → Met l y_WK_become (.code y_WK_become b_WK_become 11 (some .double) :: wC) ({ frames := fB, cells := 0, slots := 0, locals := lB }) (va_Pc [.ref (ad 12), .int n, .double x, .ref (ad (15 + h)), .int dp] (cP D cs ad σ)) (va_Qd Q (cP D cs ad) (aK ad 51)) 0 0 (aK ad 51)) {p1 : Int32} {p2 : UInt64} {g3 : Nat} {p4 : Int32} {σ : CS} {Q : UInt64 → CS → Prop} (hq : wp_WK_become V B p1 p2 g3 p4 σ Q) : Met l y_WK_become (.code y_WK_become b_WK_become 11 (some .double) :: wC) ({ frames := fB + 2, cells := 0, slots := 0, locals := lB + 57 }) (va_Pc [.ref (ad 12), .int p1, .double p2, .ref (ad (15 + g3)), .int p4] (cP D cs ad σ)) (va_Qd Q (cP D cs ad) (aK ad 51)) 0 0 (aK ad 51) := by
  refine Met.ofW (cc := b_WK_become) (maxL := 11) (ret := (some .double)) (by decide) rfl ?_
  intro p e s m args below meth c s₁ B hml hv
  obtain ⟨rfl, hP, hK, hN⟩ := hv
  have hx := B.exec
  have hb := B.bytes
  have hr := B.returns
  have hts := atoms_spec (ws := .code y_WK_become b_WK_become 11 (some .double) :: wC) B.pre
  have ht : ∀ w ∈ wC, w.before _ s = true := fun w h => hts w (List.mem_cons_of_mem _ h)
  have hown : s.vm.findClass R_WK = some m.cls := findClass_of_methodNamed B.named
  have hlocks := B.notSynchronized
  have hS : va_S (aK ad 51) s.heap s.heap [] := va_S.rf
  have hl := lv_entry ([.ref (ad 12), .int p1, .double p2, .ref (ad (15 + g3)), .int p4]) (n := 11) (Nat.le_of_ble_eq_true rfl)
  rw [lg_entry_eq]
  generalize (lg_sl ([.ref (ad 12), .int p1, .double p2, .ref (ad (15 + g3)), .int p4]) ++ List.replicate (11 - (lg_sl ([.ref (ad 12), .int p1, .double p2, .ref (ad (15 + g3)), .int p4])).length) Slot.unset).toArray = ls at hl ⊢
  have hl : lv_has ls 11 [(0, .ref (ad 12)), (1, .int p1), (2, .double p2), (4, .ref (ad (15 + g3))), (5, .int p4)] := hl
  unfold wp_WK_become at hq
  have hh_g3 : g3 < 9 := hq.1
  have hq := hq.2
  have hh8 : 8 < 9 := by decide
  refine lv_aload_n hx hb d_WK_become_0 rfl (lv_at hl 0 rfl) ?_
  refine cw_get (C := R_WK) (T := F_WK) (N := 13) (v := .ref (ad 1)) hx hb hts (in_WK _) hown hK hP 12 (by decide) rfl rfl 5 (by decide) (ht _ wC_192) rfl d_WK_become_1 ?_
  refine cw_get (C := R_PR) (T := F_PR) (N := 8) (v := .ref (ad 3)) hx hb hts (in_PR _) hown hK hP 1 (by decide) rfl rfl 1 (by decide) (ht _ wC_82) rfl d_WK_become_4 ?_
  refine lv_iload_n hx hb d_WK_become_7 rfl (lv_at hl 1 rfl) ?_
  refine cw_iald hx hb hK hP 3 (by decide) rfl 0 rfl hq.1 d_WK_become_8 ?_
  have hq := hq.2
  refine lv_istore (lv' := [(6, .int (gA σ 1 p1.toNatClampNeg)), (0, .ref (ad 12)), (1, .int p1), (2, .double p2), (4, .ref (ad (15 + g3))), (5, .int p4)]) hx hb d_WK_become_9 hl (by decide) rfl (fun ls hl => ?_)
  refine lv_aload_n hx hb d_WK_become_11 rfl (lv_at hl 1 rfl) ?_
  refine cw_get (C := R_WK) (T := F_WK) (N := 13) (v := .ref (ad 1)) hx hb hts (in_WK _) hown hK hP 12 (by decide) rfl rfl 5 (by decide) (ht _ wC_192) rfl d_WK_become_12 ?_
  refine cw_get (C := R_PR) (T := F_PR) (N := 8) (v := .ref (ad 2)) hx hb hts (in_PR _) hown hK hP 1 (by decide) rfl rfl 0 (by decide) (ht _ wC_79) rfl d_WK_become_15 ?_
  refine lv_iload_n hx hb d_WK_become_18 rfl (lv_at hl 2 rfl) ?_
  refine cw_iald hx hb hK hP 2 (by decide) rfl 0 rfl hq.1 d_WK_become_19 ?_
  have hq := hq.2
  by_cases c1 : (gA σ 0 p1.toNatClampNeg) = 1
  · have hq := hq.1 c1
    refine lv_lookup (tgt := 64) (off := 44) hx hb d_WK_become_20 (by decide) (by rw [c1]; first | done | rfl) (by decide) ?_
    refine lv_aload_n hx hb d_WK_become_64 rfl (lv_at hl 1 rfl) ?_
    refine cw_get (C := R_WK) (T := F_WK) (N := 13) (v := .ref (ad 9)) hx hb hts (in_WK _) hown hK hP 12 (by decide) rfl rfl 6 (by decide) (ht _ wC_193) rfl d_WK_become_65 ?_
    refine lv_iload hx hb d_WK_become_68 (lv_at hl 0 rfl) ?_
    refine lv_dload_n hx hb d_WK_become_70 rfl (lv_at hl 3 rfl) ?_
    refine va_calld (va_runV (As := [.int (gA σ 1 p1.toNatClampNeg), .double p2]) (rest := []) ⟨hx, hb, hml, hown, hts⟩ (c_ST_assign (D := D) (cs := cs) hi hq) (cwV 2 hts (good_V wC_516 wC_416 wC_417 wC_47 wC_418) rfl rfl rfl (by decide +kernel) ⟨(show 1 + 1 ≤ fB + 2 by omega), (show 8 + (4 + 11) + 25 ≤ lB + 57 by omega)⟩) ⟨cP_blind, va_recv hK hP (ci := 3) (q0 := 9) rfl (wd_at (by decide) rfl), fun U hU hW => ⟨rfl, by rw [hU]; exact hP, va_K.moved hW.alike hK, hN.warm hW⟩⟩ rfl rfl hl.1 rfl (lv_room (Nat.le_of_ble_eq_true rfl)) d_WK_become_71 ⟨Nat.le_of_ble_eq_true rfl, Nat.le_of_ble_eq_true rfl⟩) hS (fun q _ h => h) (fun q h => h) (fun r2 s3 t H locs ht0 hvm hq hB hz1 hk1 hS => ?_)
    obtain ⟨hP, -, -⟩ := hB
    rw [ht0] at hP
    exact W.dret hx hb hr (fun t ht hW => ⟨⟨r2, s3, rfl, hq, by rw [ht]; exact hP, va_K.moved hW.alike hK, hN.warm hW⟩, hS.F ht⟩) hS.2.2 d_WK_become_74
  have hq := hq.2 c1
  by_cases c4 : (gA σ 0 p1.toNatClampNeg) = 2
  · have hq := hq.1 c4
    refine lv_lookup (tgt := 75) (off := 55) hx hb d_WK_become_20 (by decide) (by rw [c4]; first | done | rfl) (by decide) ?_
    refine lv_aload_n hx hb d_WK_become_75 rfl (lv_at hl 1 rfl) ?_
    refine lv_iload hx hb d_WK_become_76 (lv_at hl 0 rfl) ?_
    refine lv_aload hx hb d_WK_become_78 (lv_at hl 4 rfl) ?_
    refine lv_iload hx hb d_WK_become_80 (lv_at hl 5 rfl) ?_
    refine lv_iconst (v := 1) hx hb d_WK_become_82 (by decide) ?_
    refine lv_iadd hx hb d_WK_become_83 ?_
    refine va_calld (va_runV (As := [.int (gA σ 1 p1.toNatClampNeg), .ref (ad (15 + g3)), .int (p4 + 1)]) (rest := []) ⟨hx, hb, hml, hown, hts⟩ (hV hq) (cwV 3 hts (good_V wC_439 wC_441 wC_2 wC_48 wC_442) rfl rfl rfl (by decide +kernel) ⟨(show fV + 1 ≤ fB + 2 by omega), (show 8 + (5 + 11) + lV ≤ lB + 57 by omega)⟩) ⟨cP_blind, va_recv hK hP (ci := 4) (q0 := 12) rfl (wd_at (by decide) rfl), fun U hU hW => ⟨rfl, by rw [hU]; exact hP, va_K.moved hW.alike hK, hN.warm hW⟩⟩ rfl rfl hl.1 rfl (lv_room (Nat.le_of_ble_eq_true rfl)) d_WK_become_84 ⟨Nat.le_of_ble_eq_true rfl, Nat.le_of_ble_eq_true rfl⟩) hS (fun q _ h => h) (fun q h => h) (fun r5 s6 t H locs ht0 hvm hq hB hz1 hk1 hS => ?_)
    obtain ⟨hP, -, -⟩ := hB
    rw [ht0] at hP
    refine lv_dstore (lv' := [(7, .double r5), (6, .int (gA σ 1 p1.toNatClampNeg)), (0, .ref (ad 12)), (1, .int p1), (2, .double p2), (4, .ref (ad (15 + g3))), (5, .int p4)]) hx hb d_WK_become_87 hl (by decide) rfl (fun ls hl => ?_)
    refine lv_aload_n hx hb d_WK_become_89 rfl (lv_at hl 2 rfl) ?_
    refine va_calli (va_runV (As := []) (rest := []) ⟨hx, hb, hml, hown, hts⟩ (c_WK_leaving (D := D) (cs := cs) hi hq) (cwV 0 hts (good_V wC_452 wC_454 wC_5 wC_48 wC_455) rfl rfl rfl (by decide +kernel) ⟨(show 0 + 1 ≤ fB + 2 by omega), (show 8 + (1 + 11) + 0 ≤ lB + 57 by omega)⟩) ⟨cP_blind, va_recv hK hP (ci := 4) (q0 := 12) rfl (wd_at (by decide) rfl), fun U hU hW => ⟨rfl, by rw [hU]; exact hP, va_K.moved hW.alike hK, hN.warm hW⟩⟩ rfl rfl hl.1 rfl (lv_room (Nat.le_of_ble_eq_true rfl)) d_WK_become_90 ⟨Nat.le_of_ble_eq_true rfl, Nat.le_of_ble_eq_true rfl⟩) hS (fun q _ h => h) (fun q h => h) (fun r7 s8 t H locs ht0 hvm hq hB hz1 hk1 hS => ?_)
    obtain ⟨hP, -, -⟩ := hB
    rw [ht0] at hP
    refine lv_if_eq (tgt := 98) hx hb d_WK_become_93 (by decide) (fun c9 => ?_) (fun c9 => ?_)
    · have hq := hq.1 c9
      refine lv_aload_n hx hb d_WK_become_98 rfl (lv_at hl 2 rfl) ?_
      refine lv_aload_n hx hb d_WK_become_99 rfl (lv_at hl 2 rfl) ?_
      refine cw_get (C := R_WK) (T := F_WK) (N := 13) (v := .ref (ad 1)) hx hb hts (in_WK _) hown hK hP 12 (by decide) rfl rfl 5 (by decide) (ht _ wC_192) rfl d_WK_become_100 ?_
      refine cw_get (C := R_PR) (T := F_PR) (N := 8) (v := .ref (ad 4)) hx hb hts (in_PR _) hown hK hP 1 (by decide) rfl rfl 2 (by decide) (ht _ wC_85) rfl d_WK_become_103 ?_
      refine lv_iload_n hx hb d_WK_become_106 rfl (lv_at hl 3 rfl) ?_
      refine cw_iald hx hb hK hP 4 (by decide) rfl 0 rfl hq.1 d_WK_become_107 ?_
      have hq := hq.2
      refine lv_aload hx hb d_WK_become_108 (lv_at hl 5 rfl) ?_
      refine lv_iload hx hb d_WK_become_110 (lv_at hl 6 rfl) ?_
      refine lv_iconst (v := 1) hx hb d_WK_become_112 (by decide) ?_
      refine lv_iadd hx hb d_WK_become_113 ?_
      refine va_calld (va_runV (As := [.int (gA s8 2 p1.toNatClampNeg), .ref (ad (15 + g3)), .int (p4 + 1)]) (rest := []) ⟨hx, hb, hml, hown, hts⟩ (hV hq) (cwV 3 hts (good_V wC_439 wC_441 wC_2 wC_48 wC_442) rfl rfl rfl (by decide +kernel) ⟨(show fV + 1 ≤ fB + 2 by omega), (show 8 + (5 + 11) + lV ≤ lB + 57 by omega)⟩) ⟨cP_blind, va_recv hK hP (ci := 4) (q0 := 12) rfl (wd_at (by decide) rfl), fun U hU hW => ⟨rfl, by rw [hU]; exact hP, va_K.moved hW.alike hK, hN.warm hW⟩⟩ rfl rfl hl.1 rfl (lv_room (Nat.le_of_ble_eq_true rfl)) d_WK_become_114 ⟨Nat.le_of_ble_eq_true rfl, Nat.le_of_ble_eq_true rfl⟩) hS (fun q _ h => h) (fun q h => h) (fun r10 s11 t H locs ht0 hvm hq hB hz1 hk1 hS => ?_)
      obtain ⟨hP, -, -⟩ := hB
      rw [ht0] at hP
      refine lv_dstore (lv' := [(9, .double r10), (7, .double r5), (6, .int (gA σ 1 p1.toNatClampNeg)), (0, .ref (ad 12)), (1, .int p1), (2, .double p2), (4, .ref (ad (15 + g3))), (5, .int p4)]) hx hb d_WK_become_117 hl (by decide) rfl (fun ls hl => ?_)
      refine lv_aload_n hx hb d_WK_become_119 rfl (lv_at hl 3 rfl) ?_
      refine va_calli (va_runV (As := []) (rest := []) ⟨hx, hb, hml, hown, hts⟩ (c_WK_leaving (D := D) (cs := cs) hi hq) (cwV 0 hts (good_V wC_452 wC_454 wC_5 wC_48 wC_455) rfl rfl rfl (by decide +kernel) ⟨(show 0 + 1 ≤ fB + 2 by omega), (show 8 + (1 + 11) + 0 ≤ lB + 57 by omega)⟩) ⟨cP_blind, va_recv hK hP (ci := 4) (q0 := 12) rfl (wd_at (by decide) rfl), fun U hU hW => ⟨rfl, by rw [hU]; exact hP, va_K.moved hW.alike hK, hN.warm hW⟩⟩ rfl rfl hl.1 rfl (lv_room (Nat.le_of_ble_eq_true rfl)) d_WK_become_120 ⟨Nat.le_of_ble_eq_true rfl, Nat.le_of_ble_eq_true rfl⟩) hS (fun q _ h => h) (fun q h => h) (fun r12 s13 t H locs ht0 hvm hq hB hz1 hk1 hS => ?_)
      obtain ⟨hP, -, -⟩ := hB
      rw [ht0] at hP
      refine lv_if_eq (tgt := 130) hx hb d_WK_become_123 (by decide) (fun c14 => ?_) (fun c14 => ?_)
      · have hq := hq.1 c14
        refine lv_aload_n hx hb d_WK_become_130 rfl (lv_at hl 3 rfl) ?_
        refine lv_dload hx hb d_WK_become_131 (lv_at hl 1 rfl) ?_
        refine va_calll (va_runSN (As := [.double r5]) (rest := [.ref (ad 12)]) ⟨hx, hb, hml, hown, hts⟩ (c_NF_rounded (D := D) (cs := cs) hi hq) (⟨va_cnB 1 hts (good_C wC_421) rfl rfl rfl (hN _ wN_517) (ht _ wC_44) (by decide +kernel) ⟨(show 0 + 1 ≤ fB + 2 by omega), (show 8 + (6 + 11) + 0 ≤ lB + 57 by omega)⟩, (ht _ wC_420), trivial⟩) ⟨cP_blind, fun U hU hW => ⟨rfl, by rw [hU]; exact hP, va_K.moved hW.alike hK, hN.warm hW⟩⟩ rfl rfl hl.1 rfl (lv_room (Nat.le_of_ble_eq_true rfl)) d_WK_become_133 ⟨Nat.le_of_ble_eq_true rfl, Nat.le_of_ble_eq_true rfl⟩) hS (fun q _ h => h) (fun q h => h) (fun r15 s16 t H locs ht0 hvm hq hB hz1 hk1 hS => ?_)
        obtain ⟨hP, -, -⟩ := hB
        rw [ht0] at hP
        refine lv_dload hx hb d_WK_become_136 (lv_at hl 0 rfl) ?_
        refine va_calll (va_runSN (As := [.double r10]) (rest := [.long r15, .ref (ad 12)]) ⟨hx, hb, hml, hown, hts⟩ (c_NF_rounded (D := D) (cs := cs) hi hq) (⟨va_cnB 1 hts (good_C wC_421) rfl rfl rfl (hN _ wN_517) (ht _ wC_44) (by decide +kernel) ⟨(show 0 + 1 ≤ fB + 2 by omega), (show 8 + (6 + 11) + 0 ≤ lB + 57 by omega)⟩, (ht _ wC_420), trivial⟩) ⟨cP_blind, fun U hU hW => ⟨rfl, by rw [hU]; exact hP, va_K.moved hW.alike hK, hN.warm hW⟩⟩ rfl rfl hl.1 rfl (lv_room (Nat.le_of_ble_eq_true rfl)) d_WK_become_138 ⟨Nat.le_of_ble_eq_true rfl, Nat.le_of_ble_eq_true rfl⟩) hS (fun q _ h => h) (fun q h => h) (fun r17 s18 t H locs ht0 hvm hq hB hz1 hk1 hS => ?_)
        obtain ⟨hP, -, -⟩ := hB
        rw [ht0] at hP
        refine lv_dload_n hx hb d_WK_become_141 rfl (lv_at hl 5 rfl) ?_
        refine va_calld (va_runV (As := [.long r15, .long r17, .double p2]) (rest := []) ⟨hx, hb, hml, hown, hts⟩ (c_WK_elementBecomes (D := D) (cs := cs) hi hq) (cwV 3 hts (good_V wC_518 wC_520 wC_12 wC_48 wC_521) rfl rfl rfl (by decide +kernel) ⟨(show 1 + 1 ≤ fB + 2 by omega), (show 8 + (7 + 11) + 24 ≤ lB + 57 by omega)⟩) ⟨cP_blind, va_recv hK hP (ci := 4) (q0 := 12) rfl (wd_at (by decide) rfl), fun U hU hW => ⟨rfl, by rw [hU]; exact hP, va_K.moved hW.alike hK, hN.warm hW⟩⟩ rfl rfl hl.1 rfl (lv_room (Nat.le_of_ble_eq_true rfl)) d_WK_become_142 ⟨Nat.le_of_ble_eq_true rfl, Nat.le_of_ble_eq_true rfl⟩) hS (fun q _ h => h) (fun q h => h) (fun r19 s20 t H locs ht0 hvm hq hB hz1 hk1 hS => ?_)
        obtain ⟨hP, -, -⟩ := hB
        rw [ht0] at hP
        exact W.dret hx hb hr (fun t ht hW => ⟨⟨r19, s20, rfl, hq, by rw [ht]; exact hP, va_K.moved hW.alike hK, hN.warm hW⟩, hS.F ht⟩) hS.2.2 d_WK_become_145
      · have hq := hq.2 c14
        refine lv_dconst0 hx hb d_WK_become_126 ?_
        refine lv_goto (tgt := 145) hx hb d_WK_become_127 (by decide) ?_
        exact W.dret hx hb hr (fun t ht hW => ⟨⟨FP.dconst0, s13, rfl, hq, by rw [ht]; exact hP, va_K.moved hW.alike hK, hN.warm hW⟩, hS.F ht⟩) hS.2.2 d_WK_become_145
    · have hq := hq.2 c9
      refine lv_dconst0 hx hb d_WK_become_96 ?_
      exact W.dret hx hb hr (fun t ht hW => ⟨⟨FP.dconst0, s8, rfl, hq, by rw [ht]; exact hP, va_K.moved hW.alike hK, hN.warm hW⟩, hS.F ht⟩) hS.2.2 d_WK_become_97
  have hq := hq.2 c4
  by_cases c21 : (gA σ 0 p1.toNatClampNeg) = 10
  · have hq := hq.1 c21
    refine lv_lookup (tgt := 156) (off := 136) hx hb d_WK_become_20 (by decide) (by rw [c21]; first | done | rfl) (by decide) ?_
    refine lv_aload_n hx hb d_WK_become_156 rfl (lv_at hl 1 rfl) ?_
    refine lv_iload hx hb d_WK_become_157 (lv_at hl 0 rfl) ?_
    refine lv_dload_n hx hb d_WK_become_159 rfl (lv_at hl 3 rfl) ?_
    refine lv_aload hx hb d_WK_become_160 (lv_at hl 4 rfl) ?_
    refine lv_iload hx hb d_WK_become_162 (lv_at hl 5 rfl) ?_
    refine va_calld (va_runV (As := [.int (gA σ 1 p1.toNatClampNeg), .double p2, .ref (ad (15 + g3)), .int p4]) (rest := []) ⟨hx, hb, hml, hown, hts⟩ (c_WK_parameterBecomes (D := D) (cs := cs) hi hfB hlB hB hq) (cwV 4 hts (good_V wC_534 wC_536 wC_14 wC_48 wC_537) rfl rfl rfl (by decide +kernel) ⟨(show fB + 1 + 1 ≤ fB + 2 by omega), (show 8 + (8 + 11) + (lB + 30) ≤ lB + 57 by omega)⟩) ⟨cP_blind, va_recv hK hP (ci := 4) (q0 := 12) rfl (wd_at (by decide) rfl), fun U hU hW => ⟨rfl, by rw [hU]; exact hP, va_K.moved hW.alike hK, hN.warm hW⟩⟩ rfl rfl hl.1 rfl (lv_room (Nat.le_of_ble_eq_true rfl)) d_WK_become_164 ⟨Nat.le_of_ble_eq_true rfl, Nat.le_of_ble_eq_true rfl⟩) hS (fun q _ h => h) (fun q h => h) (fun r22 s23 t H locs ht0 hvm hq hB hz1 hk1 hS => ?_)
    obtain ⟨hP, -, -⟩ := hB
    rw [ht0] at hP
    exact W.dret hx hb hr (fun t ht hW => ⟨⟨r22, s23, rfl, hq, by rw [ht]; exact hP, va_K.moved hW.alike hK, hN.warm hW⟩, hS.F ht⟩) hS.2.2 d_WK_become_167
  have hq := hq.2 c21
  by_cases c24 : (gA σ 0 p1.toNatClampNeg) = 11
  · have hq := hq.1 c24
    refine lv_lookup (tgt := 146) (off := 126) hx hb d_WK_become_20 (by decide) (by rw [c24]; first | done | rfl) (by decide) ?_
    refine lv_aload_n hx hb d_WK_become_146 rfl (lv_at hl 1 rfl) ?_
    refine lv_iload hx hb d_WK_become_147 (lv_at hl 0 rfl) ?_
    refine lv_dload_n hx hb d_WK_become_149 rfl (lv_at hl 3 rfl) ?_
    refine lv_aload hx hb d_WK_become_150 (lv_at hl 4 rfl) ?_
    refine va_calld (va_runV (As := [.int (gA σ 1 p1.toNatClampNeg), .double p2, .ref (ad (15 + g3))]) (rest := []) ⟨hx, hb, hml, hown, hts⟩ (c_WK_localBecomes (D := D) (cs := cs) hi hq) (cwV 3 hts (good_V wC_530 wC_532 wC_13 wC_48 wC_533) rfl rfl rfl (by decide +kernel) ⟨(show 1 + 1 ≤ fB + 2 by omega), (show 8 + (5 + 11) + 21 ≤ lB + 57 by omega)⟩) ⟨cP_blind, va_recv hK hP (ci := 4) (q0 := 12) rfl (wd_at (by decide) rfl), fun U hU hW => ⟨rfl, by rw [hU]; exact hP, va_K.moved hW.alike hK, hN.warm hW⟩⟩ rfl rfl hl.1 rfl (lv_room (Nat.le_of_ble_eq_true rfl)) d_WK_become_152 ⟨Nat.le_of_ble_eq_true rfl, Nat.le_of_ble_eq_true rfl⟩) hS (fun q _ h => h) (fun q h => h) (fun r25 s26 t H locs ht0 hvm hq hB hz1 hk1 hS => ?_)
    obtain ⟨hP, -, -⟩ := hB
    rw [ht0] at hP
    exact W.dret hx hb hr (fun t ht hW => ⟨⟨r25, s26, rfl, hq, by rw [ht]; exact hP, va_K.moved hW.alike hK, hN.warm hW⟩, hS.F ht⟩) hS.2.2 d_WK_become_155
  have hq := hq.2 c24
  refine lv_lookup (tgt := 168) (off := 148) hx hb d_WK_become_20 (by decide) (by show Op.lookupswitch.offset [(1, 44), (2, 55), (10, 136), (11, 126)] 148 _ = _; rw [lv_osw c1 (a := 1) rfl, lv_osw c4 (a := 2) rfl, lv_osw c21 (a := 10) rfl, lv_osw c24 (a := 11) rfl]; first | done | rfl) (by decide) ?_
  refine lv_aload_n hx hb d_WK_become_168 rfl (lv_at hl 1 rfl) ?_
  refine lv_bipush (v := 6) hx hb d_WK_become_169 (by decide) ?_
  refine va_calld (va_runV (As := [.int 6]) (rest := []) ⟨hx, hb, hml, hown, hts⟩ (c_WK_fail (D := D) (cs := cs) hi hq) (cwV 1 hts (good_V wC_464 wC_466 wC_7 wC_48 wC_467) rfl rfl rfl (by decide +kernel) ⟨(show 0 + 1 ≤ fB + 2 by omega), (show 8 + (2 + 11) + 0 ≤ lB + 57 by omega)⟩) ⟨cP_blind, va_recv hK hP (ci := 4) (q0 := 12) rfl (wd_at (by decide) rfl), fun U hU hW => ⟨rfl, by rw [hU]; exact hP, va_K.moved hW.alike hK, hN.warm hW⟩⟩ rfl rfl hl.1 rfl (lv_room (Nat.le_of_ble_eq_true rfl)) d_WK_become_171 ⟨Nat.le_of_ble_eq_true rfl, Nat.le_of_ble_eq_true rfl⟩) hS (fun q _ h => h) (fun q h => h) (fun r27 s28 t H locs ht0 hvm hq hB hz1 hk1 hS => ?_)
  obtain ⟨hP, -, -⟩ := hB
  rw [ht0] at hP
  exact W.dret hx hb hr (fun t ht hW => ⟨⟨r27, s28, rfl, hq, by rw [ht]; exact hP, va_K.moved hW.alike hK, hN.warm hW⟩, hS.F ht⟩) hS.2.2 d_WK_become_174
def wp_WK_value (V : VT) (B : BT) (p1 : Int32) (g2 : Nat) (p3 : Int32) (σ : CS) (Q : UInt64 → CS → Prop) : Prop := (g2 < 9 ∧ (wp_WK_mayBegin p3 σ (fun r1 s2 => ((r1 = 0 → Q FP.dconst0 s2) ∧ (¬ r1 = 0 → (vp_in p1 48 ∧ (vp_in p1 48 ∧ (((gA s2 0 p1.toNatClampNeg) = 0 → (vf_n64 (FP.ddiv (FP.i2d (gA s2 1 p1.toNatClampNeg)) 4620693217682128896) ∧ Q (FP.ddiv (FP.i2d (gA s2 1 p1.toNatClampNeg)) 4620693217682128896) s2)) ∧ (¬ (gA s2 0 p1.toNatClampNeg) = 0 → (((gA s2 0 p1.toNatClampNeg) = 1 → (vp_in (gA s2 1 p1.toNatClampNeg) 8 ∧ Q (gD s2 0 ((gA s2 1 p1.toNatClampNeg).toNatClampNeg)) s2)) ∧ (¬ (gA s2 0 p1.toNatClampNeg) = 1 → (((gA s2 0 p1.toNatClampNeg) = 9 → (wp_WK_choice V p1 g2 p3 s2 (fun r7 s8 => Q r7 s8))) ∧ (¬ (gA s2 0 p1.toNatClampNeg) = 9 → (((gA s2 0 p1.toNatClampNeg) = 10 → (wp_WK_parameter V (gA s2 1 p1.toNatClampNeg) g2 p3 s2 (fun r10 s11 => Q r10 s11))) ∧ (¬ (gA s2 0 p1.toNatClampNeg) = 10 → (((gA s2 0 p1.toNatClampNeg) = 11 → (wp_EN_hasLocals g2 s2 (fun r13 s14 => ((r13 = 0 → (wp_WK_fail 4 s14 (fun r16 s17 => Q r16 s17))) ∧ (¬ r13 = 0 → (vp_in (gA s2 1 p1.toNatClampNeg) 2 ∧ Q (gD s14 (20 + g2) ((gA s2 1 p1.toNatClampNeg).toNatClampNeg)) s14)))))) ∧ (¬ (gA s2 0 p1.toNatClampNeg) = 11 → (((gA s2 0 p1.toNatClampNeg) = 12 → (wp_WK_call V p1 g2 p3 s2 (fun r19 s20 => Q r19 s20))) ∧ (¬ (gA s2 0 p1.toNatClampNeg) = 12 → (((gA s2 0 p1.toNatClampNeg) = 13 → (wp_WK_set V B p1 g2 p3 s2 (fun r22 s23 => Q r22 s23))) ∧ (¬ (gA s2 0 p1.toNatClampNeg) = 13 → (((gA s2 0 p1.toNatClampNeg) = 14 → (wp_WK_sequence V p1 g2 p3 s2 (fun r25 s26 => Q r25 s26))) ∧ (¬ (gA s2 0 p1.toNatClampNeg) = 14 → (((gA s2 0 p1.toNatClampNeg) = 15 → (wp_WK_loop V p1 g2 p3 s2 (fun r28 s29 => Q r28 s29))) ∧ (¬ (gA s2 0 p1.toNatClampNeg) = 15 → (((gA s2 0 p1.toNatClampNeg) = 16 → (wp_WK_jump (gA s2 1 p1.toNatClampNeg) s2 (fun r31 s32 => Q r31 s32))) ∧ (¬ (gA s2 0 p1.toNatClampNeg) = 16 → (((gA s2 0 p1.toNatClampNeg) = 17 → (wp_WK_label V p1 g2 p3 s2 (fun r34 s35 => Q r34 s35))) ∧ (¬ (gA s2 0 p1.toNatClampNeg) = 17 → (wp_WK_ofTwo V p1 g2 p3 s2 (fun r36 s37 => Q r36 s37)))))))))))))))))))))))))))))))
set_option maxHeartbeats 4000000 in
set_option maxRecDepth 100000 in
theorem c_WK_value {l : Launch} {D : va_G} {cs : CI} {ad : Nat → Nat} (hi : aI ad 51) {V : VT} {B : BT} {fV lV fB lB : Nat} (hf : 5 ≤ fV) (hlo : 100 ≤ lV) (hVB : fV ≤ fB) (hlVB : lV ≤ lB) (hV : ∀ {n : Int32} {h : Nat} {dp : Int32} {σ : CS} {Q : UInt64 → CS → Prop}, V n h dp σ Q → Met l y_WK_value (.code y_WK_value b_WK_value 5 (some .double) :: wC) ({ frames := fV, cells := 0, slots := 0, locals := lV }) (va_Pc [.ref (ad 12), .int n, .ref (ad (15 + h)), .int dp] (cP D cs ad σ)) (va_Qd Q (cP D cs ad) (aK ad 51)) 0 0 (aK ad 51)) (hB : ∀ {n : Int32} {x : UInt64} {h : Nat} {dp : Int32} {σ : CS} {Q : UInt64 → CS → Prop}, B n x h dp σ Q → Met l y_WK_become (.code y_WK_become b_WK_become 11 (some .double) :: wC) ({ frames := fB, cells := 0, slots := 0, locals := lB }) (va_Pc [.ref (ad 12), .int n, .double x, .ref (ad (15 + h)), .int dp] (cP D cs ad σ)) (va_Qd Q (cP D cs ad) (aK ad 51)) 0 0 (aK ad 51)) {p1 : Int32} {g2 : Nat} {p3 : Int32} {σ : CS} {Q : UInt64 → CS → Prop} (hq : wp_WK_value V B p1 g2 p3 σ Q) : Met l y_WK_value (.code y_WK_value b_WK_value 5 (some .double) :: wC) ({ frames := fB + 2, cells := 0, slots := 0, locals := lB + 61 }) (va_Pc [.ref (ad 12), .int p1, .ref (ad (15 + g2)), .int p3] (cP D cs ad σ)) (va_Qd Q (cP D cs ad) (aK ad 51)) 0 0 (aK ad 51) := by
  refine Met.ofW (cc := b_WK_value) (maxL := 5) (ret := (some .double)) (by decide) rfl ?_
  intro p e s m args below meth c s₁ B hml hv
  obtain ⟨rfl, hP, hK, hN⟩ := hv
  have hx := B.exec
  have hb := B.bytes
  have hr := B.returns
  have hts := atoms_spec (ws := .code y_WK_value b_WK_value 5 (some .double) :: wC) B.pre
  have ht : ∀ w ∈ wC, w.before _ s = true := fun w h => hts w (List.mem_cons_of_mem _ h)
  have hown : s.vm.findClass R_WK = some m.cls := findClass_of_methodNamed B.named
  have hlocks := B.notSynchronized
  have hS : va_S (aK ad 51) s.heap s.heap [] := va_S.rf
  have hl := lv_entry ([.ref (ad 12), .int p1, .ref (ad (15 + g2)), .int p3]) (n := 5) (Nat.le_of_ble_eq_true rfl)
  rw [lg_entry_eq]
  generalize (lg_sl ([.ref (ad 12), .int p1, .ref (ad (15 + g2)), .int p3]) ++ List.replicate (5 - (lg_sl ([.ref (ad 12), .int p1, .ref (ad (15 + g2)), .int p3])).length) Slot.unset).toArray = ls at hl ⊢
  have hl : lv_has ls 5 [(0, .ref (ad 12)), (1, .int p1), (2, .ref (ad (15 + g2))), (3, .int p3)] := hl
  unfold wp_WK_value at hq
  have hh_g2 : g2 < 9 := hq.1
  have hq := hq.2
  have hh8 : 8 < 9 := by decide
  refine lv_aload_n hx hb d_WK_value_0 rfl (lv_at hl 0 rfl) ?_
  refine lv_iload_n hx hb d_WK_value_1 rfl (lv_at hl 3 rfl) ?_
  refine va_calli (va_runV (As := [.int p3]) (rest := []) ⟨hx, hb, hml, hown, hts⟩ (c_WK_mayBegin (D := D) (cs := cs) hi hq) (cwV 1 hts (good_V wC_443 wC_445 wC_3 wC_48 wC_446) rfl rfl rfl (by decide +kernel) ⟨(show 0 + 1 ≤ fB + 2 by omega), (show 8 + (2 + 11) + 0 ≤ lB + 61 by omega)⟩) ⟨cP_blind, va_recv hK hP (ci := 4) (q0 := 12) rfl (wd_at (by decide) rfl), fun U hU hW => ⟨rfl, by rw [hU]; exact hP, va_K.moved hW.alike hK, hN.warm hW⟩⟩ rfl rfl hl.1 rfl (lv_room (Nat.le_of_ble_eq_true rfl)) d_WK_value_2 ⟨Nat.le_of_ble_eq_true rfl, Nat.le_of_ble_eq_true rfl⟩) hS (fun q _ h => h) (fun q h => h) (fun r1 s2 t H locs ht0 hvm hq hB hz1 hk1 hS => ?_)
  obtain ⟨hP, -, -⟩ := hB
  rw [ht0] at hP
  refine lv_if_ne (tgt := 10) hx hb d_WK_value_5 (by decide) (fun c3 => ?_) (fun c3 => ?_)
  · have hq := hq.2 c3
    refine lv_aload_n hx hb d_WK_value_10 rfl (lv_at hl 0 rfl) ?_
    refine cw_get (C := R_WK) (T := F_WK) (N := 13) (v := .ref (ad 1)) hx hb hts (in_WK _) hown hK hP 12 (by decide) rfl rfl 5 (by decide) (ht _ wC_192) rfl d_WK_value_11 ?_
    refine cw_get (C := R_PR) (T := F_PR) (N := 8) (v := .ref (ad 3)) hx hb hts (in_PR _) hown hK hP 1 (by decide) rfl rfl 1 (by decide) (ht _ wC_82) rfl d_WK_value_14 ?_
    refine lv_iload_n hx hb d_WK_value_17 rfl (lv_at hl 1 rfl) ?_
    refine cw_iald hx hb hK hP 3 (by decide) rfl 0 rfl hq.1 d_WK_value_18 ?_
    have hq := hq.2
    refine lv_istore (lv' := [(4, .int (gA s2 1 p1.toNatClampNeg)), (0, .ref (ad 12)), (1, .int p1), (2, .ref (ad (15 + g2))), (3, .int p3)]) hx hb d_WK_value_19 hl (by decide) rfl (fun ls hl => ?_)
    refine lv_aload_n hx hb d_WK_value_21 rfl (lv_at hl 1 rfl) ?_
    refine cw_get (C := R_WK) (T := F_WK) (N := 13) (v := .ref (ad 1)) hx hb hts (in_WK _) hown hK hP 12 (by decide) rfl rfl 5 (by decide) (ht _ wC_192) rfl d_WK_value_22 ?_
    refine cw_get (C := R_PR) (T := F_PR) (N := 8) (v := .ref (ad 2)) hx hb hts (in_PR _) hown hK hP 1 (by decide) rfl rfl 0 (by decide) (ht _ wC_79) rfl d_WK_value_25 ?_
    refine lv_iload_n hx hb d_WK_value_28 rfl (lv_at hl 2 rfl) ?_
    refine cw_iald hx hb hK hP 2 (by decide) rfl 0 rfl hq.1 d_WK_value_29 ?_
    have hq := hq.2
    by_cases c4 : (gA s2 0 p1.toNatClampNeg) = 0
    · have hq := hq.1 c4
      refine lv_tableIn (tgt := 116) hx hb d_WK_value_30 (by rw [c4]; decide) (by rw [c4]; decide) (by rw [c4]; rfl) (by decide) ?_
      refine lv_iload hx hb d_WK_value_116 (lv_at hl 0 rfl) ?_
      refine lv_i2d hx hb d_WK_value_118 ?_
      refine lv_ldc2d hx hb hown (ht _ wC_447) d_WK_value_119 ?_
      refine lv_ddiv hx hb d_WK_value_122 hq.1 ?_
      have hq := hq.2
      exact W.dret hx hb hr (fun t ht hW => ⟨⟨(FP.ddiv (FP.i2d (gA s2 1 p1.toNatClampNeg)) 4620693217682128896), s2, rfl, hq, by rw [ht]; exact hP, va_K.moved hW.alike hK, hN.warm hW⟩, hS.F ht⟩) hS.2.2 d_WK_value_123
    have hq := hq.2 c4
    by_cases c5 : (gA s2 0 p1.toNatClampNeg) = 1
    · have hq := hq.1 c5
      refine lv_tableIn (tgt := 124) hx hb d_WK_value_30 (by rw [c5]; decide) (by rw [c5]; decide) (by rw [c5]; rfl) (by decide) ?_
      refine lv_aload_n hx hb d_WK_value_124 rfl (lv_at hl 1 rfl) ?_
      refine cw_get (C := R_WK) (T := F_WK) (N := 13) (v := .ref (ad 9)) hx hb hts (in_WK _) hown hK hP 12 (by decide) rfl rfl 6 (by decide) (ht _ wC_193) rfl d_WK_value_125 ?_
      refine cw_get (C := R_ST) (T := F_ST) (N := 6) (v := .ref (ad 10)) hx hb hts (in_ST _) hown hK hP 9 (by decide) rfl rfl 0 (by decide) (ht _ wC_124) rfl d_WK_value_128 ?_
      refine lv_iload hx hb d_WK_value_131 (lv_at hl 0 rfl) ?_
      refine cw_dald hx hb hK hP 10 (by decide) rfl 1 rfl hq.1 d_WK_value_133 ?_
      have hq := hq.2
      exact W.dret hx hb hr (fun t ht hW => ⟨⟨(gD s2 0 ((gA s2 1 p1.toNatClampNeg).toNatClampNeg)), s2, rfl, hq, by rw [ht]; exact hP, va_K.moved hW.alike hK, hN.warm hW⟩, hS.F ht⟩) hS.2.2 d_WK_value_134
    have hq := hq.2 c5
    by_cases c6 : (gA s2 0 p1.toNatClampNeg) = 9
    · have hq := hq.1 c6
      refine lv_tableIn (tgt := 135) hx hb d_WK_value_30 (by rw [c6]; decide) (by rw [c6]; decide) (by rw [c6]; rfl) (by decide) ?_
      refine lv_aload_n hx hb d_WK_value_135 rfl (lv_at hl 1 rfl) ?_
      refine lv_iload_n hx hb d_WK_value_136 rfl (lv_at hl 2 rfl) ?_
      refine lv_aload_n hx hb d_WK_value_137 rfl (lv_at hl 3 rfl) ?_
      refine lv_iload_n hx hb d_WK_value_138 rfl (lv_at hl 4 rfl) ?_
      refine va_calld (va_runV (As := [.int p1, .ref (ad (15 + g2)), .int p3]) (rest := []) ⟨hx, hb, hml, hown, hts⟩ (c_WK_choice (D := D) (cs := cs) hi hf hlo hV hq) (cwV 3 hts (good_V wC_448 wC_450 wC_4 wC_48 wC_451) rfl rfl rfl (by decide +kernel) ⟨(show fV + 1 + 1 ≤ fB + 2 by omega), (show 8 + (6 + 11) + (lV + 24) ≤ lB + 61 by omega)⟩) ⟨cP_blind, va_recv hK hP (ci := 4) (q0 := 12) rfl (wd_at (by decide) rfl), fun U hU hW => ⟨rfl, by rw [hU]; exact hP, va_K.moved hW.alike hK, hN.warm hW⟩⟩ rfl rfl hl.1 rfl (lv_room (Nat.le_of_ble_eq_true rfl)) d_WK_value_139 ⟨Nat.le_of_ble_eq_true rfl, Nat.le_of_ble_eq_true rfl⟩) hS (fun q _ h => h) (fun q h => h) (fun r7 s8 t H locs ht0 hvm hq hB hz1 hk1 hS => ?_)
      obtain ⟨hP, -, -⟩ := hB
      rw [ht0] at hP
      exact W.dret hx hb hr (fun t ht hW => ⟨⟨r7, s8, rfl, hq, by rw [ht]; exact hP, va_K.moved hW.alike hK, hN.warm hW⟩, hS.F ht⟩) hS.2.2 d_WK_value_142
    have hq := hq.2 c6
    by_cases c9 : (gA s2 0 p1.toNatClampNeg) = 10
    · have hq := hq.1 c9
      refine lv_tableIn (tgt := 143) hx hb d_WK_value_30 (by rw [c9]; decide) (by rw [c9]; decide) (by rw [c9]; rfl) (by decide) ?_
      refine lv_aload_n hx hb d_WK_value_143 rfl (lv_at hl 1 rfl) ?_
      refine lv_iload hx hb d_WK_value_144 (lv_at hl 0 rfl) ?_
      refine lv_aload_n hx hb d_WK_value_146 rfl (lv_at hl 3 rfl) ?_
      refine lv_iload_n hx hb d_WK_value_147 rfl (lv_at hl 4 rfl) ?_
      refine va_calld (va_runV (As := [.int (gA s2 1 p1.toNatClampNeg), .ref (ad (15 + g2)), .int p3]) (rest := []) ⟨hx, hb, hml, hown, hts⟩ (c_WK_parameter (D := D) (cs := cs) hi hf hlo hV hq) (cwV 3 hts (good_V wC_456 wC_458 wC_6 wC_48 wC_459) rfl rfl rfl (by decide +kernel) ⟨(show fV + 1 + 1 ≤ fB + 2 by omega), (show 8 + (6 + 11) + (lV + 24) ≤ lB + 61 by omega)⟩) ⟨cP_blind, va_recv hK hP (ci := 4) (q0 := 12) rfl (wd_at (by decide) rfl), fun U hU hW => ⟨rfl, by rw [hU]; exact hP, va_K.moved hW.alike hK, hN.warm hW⟩⟩ rfl rfl hl.1 rfl (lv_room (Nat.le_of_ble_eq_true rfl)) d_WK_value_148 ⟨Nat.le_of_ble_eq_true rfl, Nat.le_of_ble_eq_true rfl⟩) hS (fun q _ h => h) (fun q h => h) (fun r10 s11 t H locs ht0 hvm hq hB hz1 hk1 hS => ?_)
      obtain ⟨hP, -, -⟩ := hB
      rw [ht0] at hP
      exact W.dret hx hb hr (fun t ht hW => ⟨⟨r10, s11, rfl, hq, by rw [ht]; exact hP, va_K.moved hW.alike hK, hN.warm hW⟩, hS.F ht⟩) hS.2.2 d_WK_value_151
    have hq := hq.2 c9
    by_cases c12 : (gA s2 0 p1.toNatClampNeg) = 11
    · have hq := hq.1 c12
      refine lv_tableIn (tgt := 152) hx hb d_WK_value_30 (by rw [c12]; decide) (by rw [c12]; decide) (by rw [c12]; rfl) (by decide) ?_
      refine lv_aload_n hx hb d_WK_value_152 rfl (lv_at hl 3 rfl) ?_
      refine va_calli (va_runV (As := []) (rest := []) ⟨hx, hb, hml, hown, hts⟩ (c_EN_hasLocals (D := D) (cs := cs) hi hq) (cwV 0 hts (good_V wC_479 wC_480 wC_481 wC_49 wC_482) rfl rfl rfl (by decide +kernel) ⟨(show 0 + 1 ≤ fB + 2 by omega), (show 8 + (1 + 11) + 0 ≤ lB + 61 by omega)⟩) ⟨cP_blind, va_recv hK hP (ci := 1) (q0 := (15 + g2)) rfl (wd_at (by omega) (ct_o hh_g2)), fun U hU hW => ⟨rfl, by rw [hU]; exact hP, va_K.moved hW.alike hK, hN.warm hW⟩⟩ rfl rfl hl.1 rfl (lv_room (Nat.le_of_ble_eq_true rfl)) d_WK_value_153 ⟨Nat.le_of_ble_eq_true rfl, Nat.le_of_ble_eq_true rfl⟩) hS (fun q _ h => h) (fun q h => h) (fun r13 s14 t H locs ht0 hvm hq hB hz1 hk1 hS => ?_)
      obtain ⟨hP, -, -⟩ := hB
      rw [ht0] at hP
      refine lv_if_eq (tgt := 169) hx hb d_WK_value_156 (by decide) (fun c15 => ?_) (fun c15 => ?_)
      · have hq := hq.1 c15
        refine lv_aload_n hx hb d_WK_value_169 rfl (lv_at hl 1 rfl) ?_
        refine lv_iconst (v := 4) hx hb d_WK_value_170 (by decide) ?_
        refine va_calld (va_runV (As := [.int 4]) (rest := []) ⟨hx, hb, hml, hown, hts⟩ (c_WK_fail (D := D) (cs := cs) hi hq) (cwV 1 hts (good_V wC_464 wC_466 wC_7 wC_48 wC_467) rfl rfl rfl (by decide +kernel) ⟨(show 0 + 1 ≤ fB + 2 by omega), (show 8 + (2 + 11) + 0 ≤ lB + 61 by omega)⟩) ⟨cP_blind, va_recv hK hP (ci := 4) (q0 := 12) rfl (wd_at (by decide) rfl), fun U hU hW => ⟨rfl, by rw [hU]; exact hP, va_K.moved hW.alike hK, hN.warm hW⟩⟩ rfl rfl hl.1 rfl (lv_room (Nat.le_of_ble_eq_true rfl)) d_WK_value_171 ⟨Nat.le_of_ble_eq_true rfl, Nat.le_of_ble_eq_true rfl⟩) hS (fun q _ h => h) (fun q h => h) (fun r16 s17 t H locs ht0 hvm hq hB hz1 hk1 hS => ?_)
        obtain ⟨hP, -, -⟩ := hB
        rw [ht0] at hP
        exact W.dret hx hb hr (fun t ht hW => ⟨⟨r16, s17, rfl, hq, by rw [ht]; exact hP, va_K.moved hW.alike hK, hN.warm hW⟩, hS.F ht⟩) hS.2.2 d_WK_value_174
      · have hq := hq.2 c15
        refine lv_aload_n hx hb d_WK_value_159 rfl (lv_at hl 3 rfl) ?_
        refine cw_get (C := R_EN) (T := F_EN) (N := 6) (v := .ref (ad (42 + g2))) hx hb hts (in_EN _) hown hK hP (15 + g2) (by omega) (ct_o hh_g2) rfl 3 (by decide) (ht _ wC_165) rfl d_WK_value_160 ?_
        refine lv_iload hx hb d_WK_value_163 (lv_at hl 0 rfl) ?_
        refine cw_dald hx hb hK hP (42 + g2) (by omega) (ct_l hh_g2) 1 rfl hq.1 d_WK_value_165 ?_
        have hq := hq.2
        refine lv_goto (tgt := 174) hx hb d_WK_value_166 (by decide) ?_
        exact W.dret hx hb hr (fun t ht hW => ⟨⟨(gD s14 (20 + g2) ((gA s2 1 p1.toNatClampNeg).toNatClampNeg)), s14, rfl, hq, by rw [ht]; exact hP, va_K.moved hW.alike hK, hN.warm hW⟩, hS.F ht⟩) hS.2.2 d_WK_value_174
    have hq := hq.2 c12
    by_cases c18 : (gA s2 0 p1.toNatClampNeg) = 12
    · have hq := hq.1 c18
      refine lv_tableIn (tgt := 175) hx hb d_WK_value_30 (by rw [c18]; decide) (by rw [c18]; decide) (by rw [c18]; rfl) (by decide) ?_
      refine lv_aload_n hx hb d_WK_value_175 rfl (lv_at hl 1 rfl) ?_
      refine lv_iload_n hx hb d_WK_value_176 rfl (lv_at hl 2 rfl) ?_
      refine lv_aload_n hx hb d_WK_value_177 rfl (lv_at hl 3 rfl) ?_
      refine lv_iload_n hx hb d_WK_value_178 rfl (lv_at hl 4 rfl) ?_
      refine va_calld (va_runV (As := [.int p1, .ref (ad (15 + g2)), .int p3]) (rest := []) ⟨hx, hb, hml, hown, hts⟩ (c_WK_call (D := D) (cs := cs) hi hf hlo hV hq) (cwV 3 hts (good_V wC_483 wC_485 wC_9 wC_48 wC_486) rfl rfl rfl (by decide +kernel) ⟨(show fV + 1 + 1 ≤ fB + 2 by omega), (show 8 + (12 + 11) + (lV + 24) ≤ lB + 61 by omega)⟩) ⟨cP_blind, va_recv hK hP (ci := 4) (q0 := 12) rfl (wd_at (by decide) rfl), fun U hU hW => ⟨rfl, by rw [hU]; exact hP, va_K.moved hW.alike hK, hN.warm hW⟩⟩ rfl rfl hl.1 rfl (lv_room (Nat.le_of_ble_eq_true rfl)) d_WK_value_179 ⟨Nat.le_of_ble_eq_true rfl, Nat.le_of_ble_eq_true rfl⟩) hS (fun q _ h => h) (fun q h => h) (fun r19 s20 t H locs ht0 hvm hq hB hz1 hk1 hS => ?_)
      obtain ⟨hP, -, -⟩ := hB
      rw [ht0] at hP
      exact W.dret hx hb hr (fun t ht hW => ⟨⟨r19, s20, rfl, hq, by rw [ht]; exact hP, va_K.moved hW.alike hK, hN.warm hW⟩, hS.F ht⟩) hS.2.2 d_WK_value_182
    have hq := hq.2 c18
    by_cases c21 : (gA s2 0 p1.toNatClampNeg) = 13
    · have hq := hq.1 c21
      refine lv_tableIn (tgt := 183) hx hb d_WK_value_30 (by rw [c21]; decide) (by rw [c21]; decide) (by rw [c21]; rfl) (by decide) ?_
      refine lv_aload_n hx hb d_WK_value_183 rfl (lv_at hl 1 rfl) ?_
      refine lv_iload_n hx hb d_WK_value_184 rfl (lv_at hl 2 rfl) ?_
      refine lv_aload_n hx hb d_WK_value_185 rfl (lv_at hl 3 rfl) ?_
      refine lv_iload_n hx hb d_WK_value_186 rfl (lv_at hl 4 rfl) ?_
      refine va_calld (va_runV (As := [.int p1, .ref (ad (15 + g2)), .int p3]) (rest := []) ⟨hx, hb, hml, hown, hts⟩ (c_WK_set (D := D) (cs := cs) hi hf hlo hVB hlVB hV hB hq) (cwV 3 hts (good_V wC_504 wC_506 wC_10 wC_48 wC_507) rfl rfl rfl (by decide +kernel) ⟨(show fB + 1 + 1 ≤ fB + 2 by omega), (show 8 + (7 + 11) + (lB + 30) ≤ lB + 61 by omega)⟩) ⟨cP_blind, va_recv hK hP (ci := 4) (q0 := 12) rfl (wd_at (by decide) rfl), fun U hU hW => ⟨rfl, by rw [hU]; exact hP, va_K.moved hW.alike hK, hN.warm hW⟩⟩ rfl rfl hl.1 rfl (lv_room (Nat.le_of_ble_eq_true rfl)) d_WK_value_187 ⟨Nat.le_of_ble_eq_true rfl, Nat.le_of_ble_eq_true rfl⟩) hS (fun q _ h => h) (fun q h => h) (fun r22 s23 t H locs ht0 hvm hq hB hz1 hk1 hS => ?_)
      obtain ⟨hP, -, -⟩ := hB
      rw [ht0] at hP
      exact W.dret hx hb hr (fun t ht hW => ⟨⟨r22, s23, rfl, hq, by rw [ht]; exact hP, va_K.moved hW.alike hK, hN.warm hW⟩, hS.F ht⟩) hS.2.2 d_WK_value_190
    have hq := hq.2 c21
    by_cases c24 : (gA s2 0 p1.toNatClampNeg) = 14
    · have hq := hq.1 c24
      refine lv_tableIn (tgt := 191) hx hb d_WK_value_30 (by rw [c24]; decide) (by rw [c24]; decide) (by rw [c24]; rfl) (by decide) ?_
      refine lv_aload_n hx hb d_WK_value_191 rfl (lv_at hl 1 rfl) ?_
      refine lv_iload_n hx hb d_WK_value_192 rfl (lv_at hl 2 rfl) ?_
      refine lv_aload_n hx hb d_WK_value_193 rfl (lv_at hl 3 rfl) ?_
      refine lv_iload_n hx hb d_WK_value_194 rfl (lv_at hl 4 rfl) ?_
      refine va_calld (va_runV (As := [.int p1, .ref (ad (15 + g2)), .int p3]) (rest := []) ⟨hx, hb, hml, hown, hts⟩ (c_WK_sequence (D := D) (cs := cs) hi hf hlo hV hq) (cwV 3 hts (good_V wC_538 wC_540 wC_15 wC_48 wC_541) rfl rfl rfl (by decide +kernel) ⟨(show fV + 1 + 1 ≤ fB + 2 by omega), (show 8 + (4 + 11) + (lV + 24) ≤ lB + 61 by omega)⟩) ⟨cP_blind, va_recv hK hP (ci := 4) (q0 := 12) rfl (wd_at (by decide) rfl), fun U hU hW => ⟨rfl, by rw [hU]; exact hP, va_K.moved hW.alike hK, hN.warm hW⟩⟩ rfl rfl hl.1 rfl (lv_room (Nat.le_of_ble_eq_true rfl)) d_WK_value_195 ⟨Nat.le_of_ble_eq_true rfl, Nat.le_of_ble_eq_true rfl⟩) hS (fun q _ h => h) (fun q h => h) (fun r25 s26 t H locs ht0 hvm hq hB hz1 hk1 hS => ?_)
      obtain ⟨hP, -, -⟩ := hB
      rw [ht0] at hP
      exact W.dret hx hb hr (fun t ht hW => ⟨⟨r25, s26, rfl, hq, by rw [ht]; exact hP, va_K.moved hW.alike hK, hN.warm hW⟩, hS.F ht⟩) hS.2.2 d_WK_value_198
    have hq := hq.2 c24
    by_cases c27 : (gA s2 0 p1.toNatClampNeg) = 15
    · have hq := hq.1 c27
      refine lv_tableIn (tgt := 199) hx hb d_WK_value_30 (by rw [c27]; decide) (by rw [c27]; decide) (by rw [c27]; rfl) (by decide) ?_
      refine lv_aload_n hx hb d_WK_value_199 rfl (lv_at hl 1 rfl) ?_
      refine lv_iload_n hx hb d_WK_value_200 rfl (lv_at hl 2 rfl) ?_
      refine lv_aload_n hx hb d_WK_value_201 rfl (lv_at hl 3 rfl) ?_
      refine lv_iload_n hx hb d_WK_value_202 rfl (lv_at hl 4 rfl) ?_
      refine va_calld (va_runV (As := [.int p1, .ref (ad (15 + g2)), .int p3]) (rest := []) ⟨hx, hb, hml, hown, hts⟩ (c_WK_loop (D := D) (cs := cs) hi hf hlo hV hq) (cwV 3 hts (good_V wC_542 wC_544 wC_16 wC_48 wC_545) rfl rfl rfl (by decide +kernel) ⟨(show fV + 1 + 1 ≤ fB + 2 by omega), (show 8 + (7 + 11) + (lV + 24) ≤ lB + 61 by omega)⟩) ⟨cP_blind, va_recv hK hP (ci := 4) (q0 := 12) rfl (wd_at (by decide) rfl), fun U hU hW => ⟨rfl, by rw [hU]; exact hP, va_K.moved hW.alike hK, hN.warm hW⟩⟩ rfl rfl hl.1 rfl (lv_room (Nat.le_of_ble_eq_true rfl)) d_WK_value_203 ⟨Nat.le_of_ble_eq_true rfl, Nat.le_of_ble_eq_true rfl⟩) hS (fun q _ h => h) (fun q h => h) (fun r28 s29 t H locs ht0 hvm hq hB hz1 hk1 hS => ?_)
      obtain ⟨hP, -, -⟩ := hB
      rw [ht0] at hP
      exact W.dret hx hb hr (fun t ht hW => ⟨⟨r28, s29, rfl, hq, by rw [ht]; exact hP, va_K.moved hW.alike hK, hN.warm hW⟩, hS.F ht⟩) hS.2.2 d_WK_value_206
    have hq := hq.2 c27
    by_cases c30 : (gA s2 0 p1.toNatClampNeg) = 16
    · have hq := hq.1 c30
      refine lv_tableIn (tgt := 207) hx hb d_WK_value_30 (by rw [c30]; decide) (by rw [c30]; decide) (by rw [c30]; rfl) (by decide) ?_
      refine lv_aload_n hx hb d_WK_value_207 rfl (lv_at hl 1 rfl) ?_
      refine lv_iload hx hb d_WK_value_208 (lv_at hl 0 rfl) ?_
      refine va_calld (va_runV (As := [.int (gA s2 1 p1.toNatClampNeg)]) (rest := []) ⟨hx, hb, hml, hown, hts⟩ (c_WK_jump (D := D) (cs := cs) hi hq) (cwV 1 hts (good_V wC_546 wC_548 wC_17 wC_48 wC_549) rfl rfl rfl (by decide +kernel) ⟨(show 1 + 1 ≤ fB + 2 by omega), (show 8 + (2 + 11) + 21 ≤ lB + 61 by omega)⟩) ⟨cP_blind, va_recv hK hP (ci := 4) (q0 := 12) rfl (wd_at (by decide) rfl), fun U hU hW => ⟨rfl, by rw [hU]; exact hP, va_K.moved hW.alike hK, hN.warm hW⟩⟩ rfl rfl hl.1 rfl (lv_room (Nat.le_of_ble_eq_true rfl)) d_WK_value_210 ⟨Nat.le_of_ble_eq_true rfl, Nat.le_of_ble_eq_true rfl⟩) hS (fun q _ h => h) (fun q h => h) (fun r31 s32 t H locs ht0 hvm hq hB hz1 hk1 hS => ?_)
      obtain ⟨hP, -, -⟩ := hB
      rw [ht0] at hP
      exact W.dret hx hb hr (fun t ht hW => ⟨⟨r31, s32, rfl, hq, by rw [ht]; exact hP, va_K.moved hW.alike hK, hN.warm hW⟩, hS.F ht⟩) hS.2.2 d_WK_value_213
    have hq := hq.2 c30
    by_cases c33 : (gA s2 0 p1.toNatClampNeg) = 17
    · have hq := hq.1 c33
      refine lv_tableIn (tgt := 214) hx hb d_WK_value_30 (by rw [c33]; decide) (by rw [c33]; decide) (by rw [c33]; rfl) (by decide) ?_
      refine lv_aload_n hx hb d_WK_value_214 rfl (lv_at hl 1 rfl) ?_
      refine lv_iload_n hx hb d_WK_value_215 rfl (lv_at hl 2 rfl) ?_
      refine lv_aload_n hx hb d_WK_value_216 rfl (lv_at hl 3 rfl) ?_
      refine lv_iload_n hx hb d_WK_value_217 rfl (lv_at hl 4 rfl) ?_
      refine va_calld (va_runV (As := [.int p1, .ref (ad (15 + g2)), .int p3]) (rest := []) ⟨hx, hb, hml, hown, hts⟩ (c_WK_label (D := D) (cs := cs) hi hf hlo hV hq) (cwV 3 hts (good_V wC_550 wC_552 wC_18 wC_48 wC_553) rfl rfl rfl (by decide +kernel) ⟨(show fV + 1 + 1 ≤ fB + 2 by omega), (show 8 + (7 + 11) + (lV + 24) ≤ lB + 61 by omega)⟩) ⟨cP_blind, va_recv hK hP (ci := 4) (q0 := 12) rfl (wd_at (by decide) rfl), fun U hU hW => ⟨rfl, by rw [hU]; exact hP, va_K.moved hW.alike hK, hN.warm hW⟩⟩ rfl rfl hl.1 rfl (lv_room (Nat.le_of_ble_eq_true rfl)) d_WK_value_218 ⟨Nat.le_of_ble_eq_true rfl, Nat.le_of_ble_eq_true rfl⟩) hS (fun q _ h => h) (fun q h => h) (fun r34 s35 t H locs ht0 hvm hq hB hz1 hk1 hS => ?_)
      obtain ⟨hP, -, -⟩ := hB
      rw [ht0] at hP
      exact W.dret hx hb hr (fun t ht hW => ⟨⟨r34, s35, rfl, hq, by rw [ht]; exact hP, va_K.moved hW.alike hK, hN.warm hW⟩, hS.F ht⟩) hS.2.2 d_WK_value_221
    have hq := hq.2 c33
    refine cw_tabD (tgt := 222) hx hb d_WK_value_30 (by decide) ?_ ?_
    · have e_c4 := lv_neT c4 (a := 0) rfl; have e_c5 := lv_neT c5 (a := 1) rfl; have e_c6 := lv_neT c6 (a := 9) rfl; have e_c9 := lv_neT c9 (a := 10) rfl; have e_c12 := lv_neT c12 (a := 11) rfl; have e_c18 := lv_neT c18 (a := 12) rfl; have e_c21 := lv_neT c21 (a := 13) rfl; have e_c24 := lv_neT c24 (a := 14) rfl; have e_c27 := lv_neT c27 (a := 15) rfl; have e_c30 := lv_neT c30 (a := 16) rfl; have e_c33 := lv_neT c33 (a := 17) rfl
      by_cases g1 : (gA s2 0 p1.toNatClampNeg).toInt < 0
      · exact Or.inl g1
      by_cases g2 : 17 < (gA s2 0 p1.toNatClampNeg).toInt
      · exact Or.inr (Or.inl g2)
      refine Or.inr (Or.inr ?_)
      have g3 : (gA s2 0 p1.toNatClampNeg).toInt = 2 ∨ (gA s2 0 p1.toNatClampNeg).toInt = 3 ∨ (gA s2 0 p1.toNatClampNeg).toInt = 4 ∨ (gA s2 0 p1.toNatClampNeg).toInt = 5 ∨ (gA s2 0 p1.toNatClampNeg).toInt = 6 ∨ (gA s2 0 p1.toNatClampNeg).toInt = 7 ∨ (gA s2 0 p1.toNatClampNeg).toInt = 8 := by omega
      rcases g3 with g3 | g3 | g3 | g3 | g3 | g3 | g3 <;> rw [g3] <;> rfl
    refine lv_aload_n hx hb d_WK_value_222 rfl (lv_at hl 1 rfl) ?_
    refine lv_iload_n hx hb d_WK_value_223 rfl (lv_at hl 2 rfl) ?_
    refine lv_aload_n hx hb d_WK_value_224 rfl (lv_at hl 3 rfl) ?_
    refine lv_iload_n hx hb d_WK_value_225 rfl (lv_at hl 4 rfl) ?_
    refine va_calld (va_runV (As := [.int p1, .ref (ad (15 + g2)), .int p3]) (rest := []) ⟨hx, hb, hml, hown, hts⟩ (c_WK_ofTwo (D := D) (cs := cs) hi hf hlo hV hq) (cwV 3 hts (good_V wC_554 wC_556 wC_19 wC_48 wC_557) rfl rfl rfl (by decide +kernel) ⟨(show fV + 1 + 1 ≤ fB + 2 by omega), (show 8 + (8 + 11) + (lV + 24) ≤ lB + 61 by omega)⟩) ⟨cP_blind, va_recv hK hP (ci := 4) (q0 := 12) rfl (wd_at (by decide) rfl), fun U hU hW => ⟨rfl, by rw [hU]; exact hP, va_K.moved hW.alike hK, hN.warm hW⟩⟩ rfl rfl hl.1 rfl (lv_room (Nat.le_of_ble_eq_true rfl)) d_WK_value_226 ⟨Nat.le_of_ble_eq_true rfl, Nat.le_of_ble_eq_true rfl⟩) hS (fun q _ h => h) (fun q h => h) (fun r36 s37 t H locs ht0 hvm hq hB hz1 hk1 hS => ?_)
    obtain ⟨hP, -, -⟩ := hB
    rw [ht0] at hP
    exact W.dret hx hb hr (fun t ht hW => ⟨⟨r36, s37, rfl, hq, by rw [ht]; exact hP, va_K.moved hW.alike hK, hN.warm hW⟩, hS.F ht⟩) hS.2.2 d_WK_value_229
  · have hq := hq.1 c3
    refine lv_dconst0 hx hb d_WK_value_8 ?_
    exact W.dret hx hb hr (fun t ht hW => ⟨⟨FP.dconst0, s2, rfl, hq, by rw [ht]; exact hP, va_K.moved hW.alike hK, hN.warm hW⟩, hS.F ht⟩) hS.2.2 d_WK_value_9
/-- become, k parameters by name deep at most -/
def wp_be (V : VT) : Nat → BT
  | 0 => fun _ _ _ _ _ _ => False
  | k + 1 => wp_WK_become V (wp_be V k)
/-- value, d nodes deep at most -/
def wp_va : Nat → VT
  | 0 => fun _ _ _ _ _ => False
  | d + 1 => wp_WK_value (wp_va d) (wp_be (wp_va d) 9)
theorem c_be {l : Launch} {D : va_G} {cs : CI} {ad : Nat → Nat} (hi : aI ad 51) {V : VT} {fV lV : Nat} (hf : 5 ≤ fV) (hlo : 100 ≤ lV) (hV : ∀ {n : Int32} {h : Nat} {dp : Int32} {σ : CS} {Q : UInt64 → CS → Prop}, V n h dp σ Q → Met l y_WK_value (.code y_WK_value b_WK_value 5 (some .double) :: wC) ({ frames := fV, cells := 0, slots := 0, locals := lV }) (va_Pc [.ref (ad 12), .int n, .ref (ad (15 + h)), .int dp] (cP D cs ad σ)) (va_Qd Q (cP D cs ad) (aK ad 51)) 0 0 (aK ad 51)) (k : Nat) : ∀ {n : Int32} {x : UInt64} {h : Nat} {dp : Int32} {σ : CS} {Q : UInt64 → CS → Prop}, wp_be V k n x h dp σ Q → Met l y_WK_become (.code y_WK_become b_WK_become 11 (some .double) :: wC) ({ frames := fV + 2 * k, cells := 0, slots := 0, locals := lV + 57 * k }) (va_Pc [.ref (ad 12), .int n, .double x, .ref (ad (15 + h)), .int dp] (cP D cs ad σ)) (va_Qd Q (cP D cs ad) (aK ad 51)) 0 0 (aK ad 51) := by
  induction k with
  | zero => intro n x h dp σ Q hq; exact hq.elim
  | succ k ih =>
    intro n x h dp σ Q hq
    exact c_WK_become (D := D) (cs := cs) (fB := fV + 2 * k) (lB := lV + 57 * k) hi hf hlo (by omega) (by omega) (by omega) (by omega) hV ih hq
theorem c_va {l : Launch} {D : va_G} {cs : CI} {ad : Nat → Nat} (hi : aI ad 51) (d : Nat) : ∀ {n : Int32} {h : Nat} {dp : Int32} {σ : CS} {Q : UInt64 → CS → Prop}, wp_va d n h dp σ Q → Met l y_WK_value (.code y_WK_value b_WK_value 5 (some .double) :: wC) ({ frames := 20 * d + 5, cells := 0, slots := 0, locals := 574 * d + 100 }) (va_Pc [.ref (ad 12), .int n, .ref (ad (15 + h)), .int dp] (cP D cs ad σ)) (va_Qd Q (cP D cs ad) (aK ad 51)) 0 0 (aK ad 51) := by
  induction d with
  | zero => intro n h dp σ Q hq; exact hq.elim
  | succ d ih =>
    intro n h dp σ Q hq
    exact c_WK_value (D := D) (cs := cs) (fV := 20 * d + 5) (lV := 574 * d + 100) (fB := 20 * d + 5 + 2 * 9) (lB := 574 * d + 100 + 57 * 9) hi (by omega) (by omega) (by omega) (by omega) ih (c_be hi (by omega) (by omega) ih 9) hq
def wp_WK_start (p1 : Int32) (σ : CS) (Q : UInt64 → CS → Prop) : Prop := (∀ s1 : CS, s1 = sI σ 0 0 → (∀ s2 : CS, s2 = sI s1 1 0 → (∀ s3 : CS, s3 = sI s2 2 0 → (∀ s4 : CS, s4 = sI s3 3 0 → (∀ s5 : CS, s5 = sI s4 4 0 → (wp_va 81 p1 8 1 s5 (fun r6 s7 => Q r6 s7)))))))
set_option maxHeartbeats 4000000 in
set_option maxRecDepth 100000 in
theorem c_WK_start {l : Launch} {D : va_G} {cs : CI} {ad : Nat → Nat} (hi : aI ad 51) {p1 : Int32} {σ : CS} {Q : UInt64 → CS → Prop} (hq : wp_WK_start p1 σ Q) : Met l y_WK_start (.code y_WK_start b_WK_start 2 (some .double) :: wC) ({ frames := 1626, cells := 0, slots := 0, locals := 46618 }) (va_Pc [.ref (ad 12), .int p1] (cP D cs ad σ)) (va_Qd Q (cP D cs ad) (aK ad 51)) 0 0 (aK ad 51) := by
  refine Met.ofW (cc := b_WK_start) (maxL := 2) (ret := (some .double)) (by decide) rfl ?_
  intro p e s m args below meth c s₁ B hml hv
  obtain ⟨rfl, hP, hK, hN⟩ := hv
  have hx := B.exec
  have hb := B.bytes
  have hr := B.returns
  have hts := atoms_spec (ws := .code y_WK_start b_WK_start 2 (some .double) :: wC) B.pre
  have ht : ∀ w ∈ wC, w.before _ s = true := fun w h => hts w (List.mem_cons_of_mem _ h)
  have hown : s.vm.findClass R_WK = some m.cls := findClass_of_methodNamed B.named
  have hlocks := B.notSynchronized
  have hS : va_S (aK ad 51) s.heap s.heap [] := va_S.rf
  have hl := lv_entry ([.ref (ad 12), .int p1]) (n := 2) (Nat.le_of_ble_eq_true rfl)
  rw [lg_entry_eq]
  generalize (lg_sl ([.ref (ad 12), .int p1]) ++ List.replicate (2 - (lg_sl ([.ref (ad 12), .int p1])).length) Slot.unset).toArray = ls at hl ⊢
  have hl : lv_has ls 2 [(0, .ref (ad 12)), (1, .int p1)] := hl
  unfold wp_WK_start at hq
  have hh8 : 8 < 9 := by decide
  refine lv_aload_n hx hb d_WK_start_0 rfl (lv_at hl 0 rfl) ?_
  refine lv_iconst (v := 0) hx hb d_WK_start_1 (by decide) ?_
  refine cw_put (C := R_WK) (T := F_WK) (N := 13) (ty := .int) (v := .int 0) hx hb hts (in_WK _) t_WK tok_WK n_WK hown hK hP hi hS 12 (by decide) rfl rfl 0 (by decide) (ht _ wC_182) rfl (by decide +kernel) rfl rfl (Nat.le_of_ble_eq_true rfl) up_WK_worked d_WK_start_2 (fun H locs hP hS => ?_)
  obtain ⟨s1, e_s1⟩ : ∃ z, z = sI σ 0 0 := ⟨_, rfl⟩
  rw [← e_s1] at hP
  have hq := hq s1 e_s1
  refine lv_aload_n hx hb d_WK_start_5 rfl (lv_at hl 0 rfl) ?_
  refine lv_iconst (v := 0) hx hb d_WK_start_6 (by decide) ?_
  refine cw_put (C := R_WK) (T := F_WK) (N := 13) (ty := .int) (v := .int 0) hx hb hts (in_WK _) t_WK tok_WK n_WK hown hK hP hi hS 12 (by decide) rfl rfl 1 (by decide) (ht _ wC_184) rfl (by decide +kernel) rfl rfl (Nat.le_of_ble_eq_true rfl) up_WK_fault d_WK_start_7 (fun H locs hP hS => ?_)
  obtain ⟨s2, e_s2⟩ : ∃ z, z = sI s1 1 0 := ⟨_, rfl⟩
  rw [← e_s2] at hP
  have hq := hq s2 e_s2
  refine lv_aload_n hx hb d_WK_start_10 rfl (lv_at hl 0 rfl) ?_
  refine lv_iconst (v := 0) hx hb d_WK_start_11 (by decide) ?_
  refine cw_put (C := R_WK) (T := F_WK) (N := 13) (ty := .int) (v := .int 0) hx hb hts (in_WK _) t_WK tok_WK n_WK hown hK hP hi hS 12 (by decide) rfl rfl 2 (by decide) (ht _ wC_186) rfl (by decide +kernel) rfl rfl (Nat.le_of_ble_eq_true rfl) up_WK_bodiesBegun d_WK_start_12 (fun H locs hP hS => ?_)
  obtain ⟨s3, e_s3⟩ : ∃ z, z = sI s2 2 0 := ⟨_, rfl⟩
  rw [← e_s3] at hP
  have hq := hq s3 e_s3
  refine lv_aload_n hx hb d_WK_start_15 rfl (lv_at hl 0 rfl) ?_
  refine lv_iconst (v := 0) hx hb d_WK_start_16 (by decide) ?_
  refine cw_put (C := R_WK) (T := F_WK) (N := 13) (ty := .int) (v := .int 0) hx hb hts (in_WK _) t_WK tok_WK n_WK hown hK hP hi hS 12 (by decide) rfl rfl 3 (by decide) (ht _ wC_188) rfl (by decide +kernel) rfl rfl (Nat.le_of_ble_eq_true rfl) up_WK_mostEnvironments d_WK_start_17 (fun H locs hP hS => ?_)
  obtain ⟨s4, e_s4⟩ : ∃ z, z = sI s3 3 0 := ⟨_, rfl⟩
  rw [← e_s4] at hP
  have hq := hq s4 e_s4
  refine lv_aload_n hx hb d_WK_start_20 rfl (lv_at hl 0 rfl) ?_
  refine lv_iconst (v := 0) hx hb d_WK_start_21 (by decide) ?_
  refine cw_put (C := R_WK) (T := F_WK) (N := 13) (ty := .int) (v := .int 0) hx hb hts (in_WK _) t_WK tok_WK n_WK hown hK hP hi hS 12 (by decide) rfl rfl 4 (by decide) (ht _ wC_190) rfl (by decide +kernel) rfl rfl (Nat.le_of_ble_eq_true rfl) up_WK_jumpsArrived d_WK_start_22 (fun H locs hP hS => ?_)
  obtain ⟨s5, e_s5⟩ : ∃ z, z = sI s4 4 0 := ⟨_, rfl⟩
  rw [← e_s5] at hP
  have hq := hq s5 e_s5
  refine lv_aload_n hx hb d_WK_start_25 rfl (lv_at hl 0 rfl) ?_
  refine lv_iload_n hx hb d_WK_start_26 rfl (lv_at hl 1 rfl) ?_
  refine lv_aload_n hx hb d_WK_start_27 rfl (lv_at hl 0 rfl) ?_
  refine cw_get (C := R_WK) (T := F_WK) (N := 13) (v := .ref (ad (15 + 8))) hx hb hts (in_WK _) hown hK hP 12 (by decide) rfl rfl 7 (by decide) (ht _ wC_194) rfl d_WK_start_28 ?_
  refine lv_iconst (v := 1) hx hb d_WK_start_31 (by decide) ?_
  refine va_calld (va_runV (As := [.int p1, .ref (ad (15 + 8)), .int 1]) (rest := []) ⟨hx, hb, hml, hown, hts⟩ (c_va (D := D) (cs := cs) hi 81 hq) (cwV 3 hts (good_V wC_439 wC_441 wC_2 wC_48 wC_442) rfl rfl rfl (by decide +kernel) ⟨(show 1625 + 1 ≤ 1626 by omega), (show 8 + (5 + 11) + 46594 ≤ 46618 by omega)⟩) ⟨cP_blind, va_recv hK hP (ci := 4) (q0 := 12) rfl (wd_at (by decide) rfl), fun U hU hW => ⟨rfl, by rw [hU]; exact hP, va_K.moved hW.alike hK, hN.warm hW⟩⟩ rfl rfl hl.1 rfl (lv_room (Nat.le_of_ble_eq_true rfl)) d_WK_start_32 ⟨Nat.le_of_ble_eq_true rfl, Nat.le_of_ble_eq_true rfl⟩) hS (fun q _ h => h) (fun q h => h) (fun r6 s7 t H locs ht0 hvm hq hB hz1 hk1 hS => ?_)
  obtain ⟨hP, -, -⟩ := hB
  rw [ht0] at hP
  exact W.dret hx hb hr (fun t ht hW => ⟨⟨r6, s7, rfl, hq, by rw [ht]; exact hP, va_K.moved hW.alike hK, hN.warm hW⟩, hS.F ht⟩) hS.2.2 d_WK_start_35
