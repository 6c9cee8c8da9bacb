def wp_PR_takes (p1 : Int32) (p2 : Int32) (p3 : Int32) (p4 : Int32) (σ : CS) (Q : Int32 → CS → Prop) : Prop := (wp_NF_isBelow p1 18 σ (fun r1 s2 => ((r1 = 0 → Q 0 s2) ∧ (¬ r1 = 0 → (vp_in p1 18 ∧ (wp_PR_fits p2 (soA (p1.toNatClampNeg)) s2 (fun r4 s5 => ((r4 = 0 → Q 0 s5) ∧ (¬ r4 = 0 → (vp_in p1 18 ∧ (wp_PR_fits p3 (soB (p1.toNatClampNeg)) s5 (fun r7 s8 => ((r7 = 0 → Q 0 s8) ∧ (¬ r7 = 0 → (vp_in p1 18 ∧ (wp_PR_fits p4 (soC (p1.toNatClampNeg)) s8 (fun r10 s11 => ((r10 = 0 → Q 0 s11) ∧ (¬ r10 = 0 → Q 1 s11)))))))))))))))))))
set_option maxHeartbeats 4000000 in
set_option maxRecDepth 100000 in
theorem c_PR_takes {l : Launch} {D : va_G} {cs : CI} {ad : Nat → Nat} (hi : aI ad 51) {p1 : Int32} {p2 : Int32} {p3 : Int32} {p4 : Int32} {σ : CS} {Q : Int32 → CS → Prop} (hq : wp_PR_takes p1 p2 p3 p4 σ Q) : Met l y_PR_takes (.code y_PR_takes b_PR_takes 5 (some .boolean) :: wC) ({ frames := 3, cells := 0, slots := 0, locals := 64 }) (va_Pc [.ref (ad 1), .int p1, .int p2, .int p3, .int p4] (fun U => cP D cs ad σ U ∧ XW (aK ad 51) U)) (va_Qi Q (cP D cs ad) (aK ad 51)) 0 0 (aK ad 51) := by
  refine Met.ofW (cc := b_PR_takes) (maxL := 5) (ret := (some .boolean)) (by decide) rfl ?_
  intro p e s m args below meth c s₁ B hml hv
  obtain ⟨rfl, ⟨hP, hK, hN⟩, hXW⟩ := hv
  obtain ⟨⟨tA, tB, tC, hZA, hTA, hZB, hTB, hZC, hTC⟩, hXS, hU0, hN0⟩ := id hXW
  have hx := B.exec
  have hb := B.bytes
  have hr := B.returns
  have hts := atoms_spec (ws := .code y_PR_takes b_PR_takes 5 (some .boolean) :: wC) B.pre
  have ht : ∀ w ∈ wC, w.before _ s = true := fun w h => hts w (List.mem_cons_of_mem _ h)
  have hown : s.vm.findClass R_PR = some m.cls := findClass_of_methodNamed B.named
  have hlocks := B.notSynchronized
  have hS : va_S (aK ad 51) s.heap s.heap [] := va_S.rf
  have hl := lv_entry ([.ref (ad 1), .int p1, .int p2, .int p3, .int p4]) (n := 5) (Nat.le_of_ble_eq_true rfl)
  rw [lg_entry_eq]
  generalize (lg_sl ([.ref (ad 1), .int p1, .int p2, .int p3, .int p4]) ++ List.replicate (5 - (lg_sl ([.ref (ad 1), .int p1, .int p2, .int p3, .int p4])).length) Slot.unset).toArray = ls at hl ⊢
  have hl : lv_has ls 5 [(0, .ref (ad 1)), (1, .int p1), (2, .int p2), (3, .int p3), (4, .int p4)] := hl
  unfold wp_PR_takes at hq
  refine lv_iload_n hx hb d_PR_takes_0 rfl (lv_at hl 1 rfl) ?_
  refine lv_bipush (v := 18) hx hb d_PR_takes_1 (by decide) ?_
  refine va_calli (va_runSN (As := [.int p1, .int 18]) (rest := []) ⟨hx, hb, hml, hown, hts⟩ (c_NF_isBelow (D := D) (cs := cs) hi hq) (⟨va_cnB 2 hts (good_C wC_260) rfl rfl rfl (hN _ wN_258) (ht _ wC_44) (by decide +kernel) ⟨(show 0 + 1 ≤ 3 by omega), (show 8 + (2 + 11) + 0 ≤ 64 by omega)⟩, (ht _ wC_259), trivial⟩) ⟨cP_blind, fun U hU hW => ⟨rfl, by rw [hU]; exact hP, va_K.moved hW.alike hK, hN.warm hW⟩⟩ rfl rfl hl.1 rfl (lv_room (Nat.le_of_ble_eq_true rfl)) d_PR_takes_3 ⟨Nat.le_of_ble_eq_true rfl, Nat.le_of_ble_eq_true rfl⟩) hS (fun q _ h => h) (fun q h => h) (fun r1 s2 t H locs ht0 hvm hq hB hz1 hk1 hS => ?_)
  obtain ⟨hP, -, -⟩ := hB
  rw [ht0] at hP
  refine lv_if_eq (tgt := 53) hx hb d_PR_takes_6 (by decide) (fun c3 => ?_) (fun c3 => ?_)
  · have hq := hq.1 c3
    refine lv_iconst (v := 0) hx hb d_PR_takes_53 (by decide) ?_
    exact W.zret hx hb hr rfl (fun t ht hW => ⟨⟨0, s2, rfl, hq, by rw [ht]; exact hP, va_K.moved hW.alike hK, hN.warm hW⟩, hS.F ht⟩) hS.2.2 d_PR_takes_54
  · have hq := hq.2 c3
    refine lv_aload_n hx hb d_PR_takes_9 rfl (lv_at hl 0 rfl) ?_
    refine lv_iload_n hx hb d_PR_takes_10 rfl (lv_at hl 2 rfl) ?_
    refine va_gets hx hb hZA hS hown (ht _ wC_261) (fun _ h => h) d_PR_takes_11 ?_
    refine lv_iload_n hx hb d_PR_takes_14 rfl (lv_at hl 1 rfl) ?_
    refine va_ti hx hb hTA hS hq.1 rfl d_PR_takes_15 ?_
    have hq := hq.2
    refine va_calli (va_runV (As := [.int p2, .int (soA (p1.toNatClampNeg))]) (rest := []) ⟨hx, hb, hml, hown, hts⟩ (c_PR_fits (D := D) (cs := cs) hi hq) (cwV 2 hts (good_V wC_263 wC_265 wC_0 wC_45 wC_266) rfl rfl rfl (by decide +kernel) ⟨(show 2 + 1 ≤ 3 by omega), (show 8 + (3 + 11) + 42 ≤ 64 by omega)⟩) ⟨cP_blind, va_recv hK hP (ci := 2) (q0 := 1) rfl (wd_at (by decide) rfl), fun U hU hW => ⟨rfl, by rw [hU]; exact hP, va_K.moved hW.alike hK, hN.warm hW⟩⟩ rfl rfl hl.1 rfl (lv_room (Nat.le_of_ble_eq_true rfl)) d_PR_takes_16 ⟨Nat.le_of_ble_eq_true rfl, Nat.le_of_ble_eq_true rfl⟩) hS (fun q _ h => h) (fun q h => h) (fun r4 s5 t H locs ht0 hvm hq hB hz1 hk1 hS => ?_)
    obtain ⟨hP, -, -⟩ := hB
    rw [ht0] at hP
    refine lv_if_eq (tgt := 53) hx hb d_PR_takes_19 (by decide) (fun c6 => ?_) (fun c6 => ?_)
    · have hq := hq.1 c6
      refine lv_iconst (v := 0) hx hb d_PR_takes_53 (by decide) ?_
      exact W.zret hx hb hr rfl (fun t ht hW => ⟨⟨0, s5, rfl, hq, by rw [ht]; exact hP, va_K.moved hW.alike hK, hN.warm hW⟩, hS.F ht⟩) hS.2.2 d_PR_takes_54
    · have hq := hq.2 c6
      refine lv_aload_n hx hb d_PR_takes_22 rfl (lv_at hl 0 rfl) ?_
      refine lv_iload_n hx hb d_PR_takes_23 rfl (lv_at hl 3 rfl) ?_
      refine va_gets hx hb hZB hS hown (ht _ wC_271) (fun _ h => h) d_PR_takes_24 ?_
      refine lv_iload_n hx hb d_PR_takes_27 rfl (lv_at hl 1 rfl) ?_
      refine va_ti hx hb hTB hS hq.1 rfl d_PR_takes_28 ?_
      have hq := hq.2
      refine va_calli (va_runV (As := [.int p3, .int (soB (p1.toNatClampNeg))]) (rest := []) ⟨hx, hb, hml, hown, hts⟩ (c_PR_fits (D := D) (cs := cs) hi hq) (cwV 2 hts (good_V wC_263 wC_265 wC_0 wC_45 wC_266) rfl rfl rfl (by decide +kernel) ⟨(show 2 + 1 ≤ 3 by omega), (show 8 + (3 + 11) + 42 ≤ 64 by omega)⟩) ⟨cP_blind, va_recv hK hP (ci := 2) (q0 := 1) rfl (wd_at (by decide) rfl), fun U hU hW => ⟨rfl, by rw [hU]; exact hP, va_K.moved hW.alike hK, hN.warm hW⟩⟩ rfl rfl hl.1 rfl (lv_room (Nat.le_of_ble_eq_true rfl)) d_PR_takes_29 ⟨Nat.le_of_ble_eq_true rfl, Nat.le_of_ble_eq_true rfl⟩) hS (fun q _ h => h) (fun q h => h) (fun r7 s8 t H locs ht0 hvm hq hB hz1 hk1 hS => ?_)
      obtain ⟨hP, -, -⟩ := hB
      rw [ht0] at hP
      refine lv_if_eq (tgt := 53) hx hb d_PR_takes_32 (by decide) (fun c9 => ?_) (fun c9 => ?_)
      · have hq := hq.1 c9
        refine lv_iconst (v := 0) hx hb d_PR_takes_53 (by decide) ?_
        exact W.zret hx hb hr rfl (fun t ht hW => ⟨⟨0, s8, rfl, hq, by rw [ht]; exact hP, va_K.moved hW.alike hK, hN.warm hW⟩, hS.F ht⟩) hS.2.2 d_PR_takes_54
      · have hq := hq.2 c9
        refine lv_aload_n hx hb d_PR_takes_35 rfl (lv_at hl 0 rfl) ?_
        refine lv_iload hx hb d_PR_takes_36 (lv_at hl 4 rfl) ?_
        refine va_gets hx hb hZC hS hown (ht _ wC_273) (fun _ h => h) d_PR_takes_38 ?_
        refine lv_iload_n hx hb d_PR_takes_41 rfl (lv_at hl 1 rfl) ?_
        refine va_ti hx hb hTC hS hq.1 rfl d_PR_takes_42 ?_
        have hq := hq.2
        refine va_calli (va_runV (As := [.int p4, .int (soC (p1.toNatClampNeg))]) (rest := []) ⟨hx, hb, hml, hown, hts⟩ (c_PR_fits (D := D) (cs := cs) hi hq) (cwV 2 hts (good_V wC_263 wC_265 wC_0 wC_45 wC_266) rfl rfl rfl (by decide +kernel) ⟨(show 2 + 1 ≤ 3 by omega), (show 8 + (3 + 11) + 42 ≤ 64 by omega)⟩) ⟨cP_blind, va_recv hK hP (ci := 2) (q0 := 1) rfl (wd_at (by decide) rfl), fun U hU hW => ⟨rfl, by rw [hU]; exact hP, va_K.moved hW.alike hK, hN.warm hW⟩⟩ rfl rfl hl.1 rfl (lv_room (Nat.le_of_ble_eq_true rfl)) d_PR_takes_43 ⟨Nat.le_of_ble_eq_true rfl, Nat.le_of_ble_eq_true rfl⟩) hS (fun q _ h => h) (fun q h => h) (fun r10 s11 t H locs ht0 hvm hq hB hz1 hk1 hS => ?_)
        obtain ⟨hP, -, -⟩ := hB
        rw [ht0] at hP
        refine lv_if_eq (tgt := 53) hx hb d_PR_takes_46 (by decide) (fun c12 => ?_) (fun c12 => ?_)
        · have hq := hq.1 c12
          refine lv_iconst (v := 0) hx hb d_PR_takes_53 (by decide) ?_
          exact W.zret hx hb hr rfl (fun t ht hW => ⟨⟨0, s11, rfl, hq, by rw [ht]; exact hP, va_K.moved hW.alike hK, hN.warm hW⟩, hS.F ht⟩) hS.2.2 d_PR_takes_54
        · have hq := hq.2 c12
          refine lv_iconst (v := 1) hx hb d_PR_takes_49 (by decide) ?_
          refine lv_goto (tgt := 54) hx hb d_PR_takes_50 (by decide) ?_
          exact W.zret hx hb hr rfl (fun t ht hW => ⟨⟨1, s11, rfl, hq, by rw [ht]; exact hP, va_K.moved hW.alike hK, hN.warm hW⟩, hS.F ht⟩) hS.2.2 d_PR_takes_54
def wp_PR_add (p1 : Int32) (p2 : Int32) (p3 : Int32) (p4 : Int32) (σ : CS) (Q : Int32 → CS → Prop) : Prop := (vp_in (gI σ 8) 48 ∧ (∀ s1 : CS, s1 = sA σ 0 (upd (gA σ 0) ((gI σ 8).toNatClampNeg) p1) → (vp_in (gI s1 8) 48 ∧ (∀ s2 : CS, s2 = sA s1 1 (upd (gA s1 1) ((gI s1 8).toNatClampNeg) p2) → (vp_in p1 18 ∧ (((soB (p1.toNatClampNeg)) = 0 → (vp_in (gI s2 8) 48 ∧ (∀ s10 : CS, s10 = sA s2 2 (upd (gA s2 2) ((gI s2 8).toNatClampNeg) (-1)) → (vp_in p1 18 ∧ (((soC (p1.toNatClampNeg)) = 0 → (vp_in (gI s10 8) 48 ∧ (∀ s14 : CS, s14 = sA s10 3 (upd (gA s10 3) ((gI s10 8).toNatClampNeg) (-1)) → (∀ s15 : CS, s15 = sI s14 8 ((gI s14 8) + 1) → Q ((gI s15 8) - 1) s15)))) ∧ (¬ (soC (p1.toNatClampNeg)) = 0 → (vp_in (gI s10 8) 48 ∧ (∀ s12 : CS, s12 = sA s10 3 (upd (gA s10 3) ((gI s10 8).toNatClampNeg) p4) → (∀ s13 : CS, s13 = sI s12 8 ((gI s12 8) + 1) → Q ((gI s13 8) - 1) s13))))))))) ∧ (¬ (soB (p1.toNatClampNeg)) = 0 → (vp_in (gI s2 8) 48 ∧ (∀ s4 : CS, s4 = sA s2 2 (upd (gA s2 2) ((gI s2 8).toNatClampNeg) p3) → (vp_in p1 18 ∧ (((soC (p1.toNatClampNeg)) = 0 → (vp_in (gI s4 8) 48 ∧ (∀ s8 : CS, s8 = sA s4 3 (upd (gA s4 3) ((gI s4 8).toNatClampNeg) (-1)) → (∀ s9 : CS, s9 = sI s8 8 ((gI s8 8) + 1) → Q ((gI s9 8) - 1) s9)))) ∧ (¬ (soC (p1.toNatClampNeg)) = 0 → (vp_in (gI s4 8) 48 ∧ (∀ s6 : CS, s6 = sA s4 3 (upd (gA s4 3) ((gI s4 8).toNatClampNeg) p4) → (∀ s7 : CS, s7 = sI s6 8 ((gI s6 8) + 1) → Q ((gI s7 8) - 1) s7)))))))))))))))
set_option maxHeartbeats 4000000 in
set_option maxRecDepth 100000 in
theorem c_PR_add {l : Launch} {D : va_G} {cs : CI} {ad : Nat → Nat} (hi : aI ad 51) {p1 : Int32} {p2 : Int32} {p3 : Int32} {p4 : Int32} {σ : CS} {Q : Int32 → CS → Prop} (hq : wp_PR_add p1 p2 p3 p4 σ Q) : Met l y_PR_add (.code y_PR_add b_PR_add 5 (some .int) :: wC) ({ frames := 0, cells := 0, slots := 0, locals := 0 }) (va_Pc [.ref (ad 1), .int p1, .int p2, .int p3, .int p4] (fun U => cP D cs ad σ U ∧ XW (aK ad 51) U)) (va_Qi Q (cP D cs ad) (aK ad 51)) 0 0 (aK ad 51) := by
  refine Met.ofW (cc := b_PR_add) (maxL := 5) (ret := (some .int)) (by decide) rfl ?_
  intro p e s m args below meth c s₁ B hml hv
  obtain ⟨rfl, ⟨hP, hK, hN⟩, hXW⟩ := hv
  obtain ⟨⟨tA, tB, tC, hZA, hTA, hZB, hTB, hZC, hTC⟩, hXS, hU0, hN0⟩ := id hXW
  have hx := B.exec
  have hb := B.bytes
  have hr := B.returns
  have hts := atoms_spec (ws := .code y_PR_add b_PR_add 5 (some .int) :: wC) B.pre
  have ht : ∀ w ∈ wC, w.before _ s = true := fun w h => hts w (List.mem_cons_of_mem _ h)
  have hown : s.vm.findClass R_PR = some m.cls := findClass_of_methodNamed B.named
  have hlocks := B.notSynchronized
  have hS : va_S (aK ad 51) s.heap s.heap [] := va_S.rf
  have hl := lv_entry ([.ref (ad 1), .int p1, .int p2, .int p3, .int p4]) (n := 5) (Nat.le_of_ble_eq_true rfl)
  rw [lg_entry_eq]
  generalize (lg_sl ([.ref (ad 1), .int p1, .int p2, .int p3, .int p4]) ++ List.replicate (5 - (lg_sl ([.ref (ad 1), .int p1, .int p2, .int p3, .int p4])).length) Slot.unset).toArray = ls at hl ⊢
  have hl : lv_has ls 5 [(0, .ref (ad 1)), (1, .int p1), (2, .int p2), (3, .int p3), (4, .int p4)] := hl
  unfold wp_PR_add at hq
  refine lv_aload_n hx hb d_PR_add_0 rfl (lv_at hl 0 rfl) ?_
  refine cw_get (C := R_PR) (T := F_PR) (N := 8) (v := .ref (ad 2)) hx hb hts (in_PR _) hown hK hP 1 (by decide) rfl rfl 0 (by decide) (ht _ wC_78) rfl d_PR_add_1 ?_
  refine lv_aload_n hx hb d_PR_add_4 rfl (lv_at hl 0 rfl) ?_
  refine cw_get (C := R_PR) (T := F_PR) (N := 8) (v := .int (gI σ 8)) hx hb hts (in_PR _) hown hK hP 1 (by decide) rfl rfl 4 (by decide) (ht _ wC_90) rfl d_PR_add_5 ?_
  refine lv_iload_n hx hb d_PR_add_8 rfl (lv_at hl 1 rfl) ?_
  refine cw_iast hx hb hK hP hi hS 2 (by decide) rfl 0 rfl hq.1 upa_0 d_PR_add_9 (fun H locs hP hS => ?_)
  have hq := hq.2
  obtain ⟨s1, e_s1⟩ : ∃ z, z = sA σ 0 (upd (gA σ 0) ((gI σ 8).toNatClampNeg) p1) := ⟨_, rfl⟩
  rw [← e_s1] at hP
  have hq := hq s1 e_s1
  refine lv_aload_n hx hb d_PR_add_10 rfl (lv_at hl 0 rfl) ?_
  refine cw_get (C := R_PR) (T := F_PR) (N := 8) (v := .ref (ad 3)) hx hb hts (in_PR _) hown hK hP 1 (by decide) rfl rfl 1 (by decide) (ht _ wC_81) rfl d_PR_add_11 ?_
  refine lv_aload_n hx hb d_PR_add_14 rfl (lv_at hl 0 rfl) ?_
  refine cw_get (C := R_PR) (T := F_PR) (N := 8) (v := .int (gI s1 8)) hx hb hts (in_PR _) hown hK hP 1 (by decide) rfl rfl 4 (by decide) (ht _ wC_90) rfl d_PR_add_15 ?_
  refine lv_iload_n hx hb d_PR_add_18 rfl (lv_at hl 2 rfl) ?_
  refine cw_iast hx hb hK hP hi hS 3 (by decide) rfl 0 rfl hq.1 upa_1 d_PR_add_19 (fun H locs hP hS => ?_)
  have hq := hq.2
  obtain ⟨s2, e_s2⟩ : ∃ z, z = sA s1 1 (upd (gA s1 1) ((gI s1 8).toNatClampNeg) p2) := ⟨_, rfl⟩
  rw [← e_s2] at hP
  have hq := hq s2 e_s2
  refine lv_aload_n hx hb d_PR_add_20 rfl (lv_at hl 0 rfl) ?_
  refine cw_get (C := R_PR) (T := F_PR) (N := 8) (v := .ref (ad 4)) hx hb hts (in_PR _) hown hK hP 1 (by decide) rfl rfl 2 (by decide) (ht _ wC_84) rfl d_PR_add_21 ?_
  refine lv_aload_n hx hb d_PR_add_24 rfl (lv_at hl 0 rfl) ?_
  refine cw_get (C := R_PR) (T := F_PR) (N := 8) (v := .int (gI s2 8)) hx hb hts (in_PR _) hown hK hP 1 (by decide) rfl rfl 4 (by decide) (ht _ wC_90) rfl d_PR_add_25 ?_
  refine va_gets hx hb hZB hS hown (ht _ wC_271) (fun _ h => h) d_PR_add_28 ?_
  refine lv_iload_n hx hb d_PR_add_31 rfl (lv_at hl 1 rfl) ?_
  refine va_ti hx hb hTB hS hq.1 rfl d_PR_add_32 ?_
  have hq := hq.2
  refine lv_if_ne (tgt := 40) hx hb d_PR_add_33 (by decide) (fun c3 => ?_) (fun c3 => ?_)
  · have hq := hq.2 c3
    refine lv_iload_n hx hb d_PR_add_40 rfl (lv_at hl 3 rfl) ?_
    refine cw_iast hx hb hK hP hi hS 4 (by decide) rfl 0 rfl hq.1 upa_2 d_PR_add_41 (fun H locs hP hS => ?_)
    have hq := hq.2
    obtain ⟨s4, e_s4⟩ : ∃ z, z = sA s2 2 (upd (gA s2 2) ((gI s2 8).toNatClampNeg) p3) := ⟨_, rfl⟩
    rw [← e_s4] at hP
    have hq := hq s4 e_s4
    refine lv_aload_n hx hb d_PR_add_42 rfl (lv_at hl 0 rfl) ?_
    refine cw_get (C := R_PR) (T := F_PR) (N := 8) (v := .ref (ad 5)) hx hb hts (in_PR _) hown hK hP 1 (by decide) rfl rfl 3 (by decide) (ht _ wC_87) rfl d_PR_add_43 ?_
    refine lv_aload_n hx hb d_PR_add_46 rfl (lv_at hl 0 rfl) ?_
    refine cw_get (C := R_PR) (T := F_PR) (N := 8) (v := .int (gI s4 8)) hx hb hts (in_PR _) hown hK hP 1 (by decide) rfl rfl 4 (by decide) (ht _ wC_90) rfl d_PR_add_47 ?_
    refine va_gets hx hb hZC hS hown (ht _ wC_273) (fun _ h => h) d_PR_add_50 ?_
    refine lv_iload_n hx hb d_PR_add_53 rfl (lv_at hl 1 rfl) ?_
    refine va_ti hx hb hTC hS hq.1 rfl d_PR_add_54 ?_
    have hq := hq.2
    refine lv_if_ne (tgt := 62) hx hb d_PR_add_55 (by decide) (fun c5 => ?_) (fun c5 => ?_)
    · have hq := hq.2 c5
      refine lv_iload hx hb d_PR_add_62 (lv_at hl 4 rfl) ?_
      refine cw_iast hx hb hK hP hi hS 5 (by decide) rfl 0 rfl hq.1 upa_3 d_PR_add_64 (fun H locs hP hS => ?_)
      have hq := hq.2
      obtain ⟨s6, e_s6⟩ : ∃ z, z = sA s4 3 (upd (gA s4 3) ((gI s4 8).toNatClampNeg) p4) := ⟨_, rfl⟩
      rw [← e_s6] at hP
      have hq := hq s6 e_s6
      refine lv_aload_n hx hb d_PR_add_65 rfl (lv_at hl 0 rfl) ?_
      refine lv_dup hx hb d_PR_add_66 rfl ?_
      refine cw_get (C := R_PR) (T := F_PR) (N := 8) (v := .int (gI s6 8)) hx hb hts (in_PR _) hown hK hP 1 (by decide) rfl rfl 4 (by decide) (ht _ wC_90) rfl d_PR_add_67 ?_
      refine lv_iconst (v := 1) hx hb d_PR_add_70 (by decide) ?_
      refine lv_iadd hx hb d_PR_add_71 ?_
      refine cw_put (C := R_PR) (T := F_PR) (N := 8) (ty := .int) (v := .int ((gI s6 8) + 1)) hx hb hts (in_PR _) t_PR tok_PR n_PR hown hK hP hi hS 1 (by decide) rfl rfl 4 (by decide) (ht _ wC_90) rfl (by decide +kernel) rfl rfl (Nat.le_of_ble_eq_true rfl) up_PR_size d_PR_add_72 (fun H locs hP hS => ?_)
      obtain ⟨s7, e_s7⟩ : ∃ z, z = sI s6 8 ((gI s6 8) + 1) := ⟨_, rfl⟩
      rw [← e_s7] at hP
      have hq := hq s7 e_s7
      refine lv_aload_n hx hb d_PR_add_75 rfl (lv_at hl 0 rfl) ?_
      refine cw_get (C := R_PR) (T := F_PR) (N := 8) (v := .int (gI s7 8)) hx hb hts (in_PR _) hown hK hP 1 (by decide) rfl rfl 4 (by decide) (ht _ wC_90) rfl d_PR_add_76 ?_
      refine lv_iconst (v := 1) hx hb d_PR_add_79 (by decide) ?_
      refine lv_isub hx hb d_PR_add_80 ?_
      exact W.iret hx hb hr (fun t ht hW => ⟨⟨((gI s7 8) - 1), s7, rfl, hq, by rw [ht]; exact hP, va_K.moved hW.alike hK, hN.warm hW⟩, hS.F ht⟩) hS.2.2 d_PR_add_81
    · have hq := hq.1 c5
      refine lv_iconst (v := (-1)) hx hb d_PR_add_58 (by decide) ?_
      refine lv_goto (tgt := 64) hx hb d_PR_add_59 (by decide) ?_
      refine cw_iast hx hb hK hP hi hS 5 (by decide) rfl 0 rfl hq.1 upa_3 d_PR_add_64 (fun H locs hP hS => ?_)
      have hq := hq.2
      obtain ⟨s8, e_s8⟩ : ∃ z, z = sA s4 3 (upd (gA s4 3) ((gI s4 8).toNatClampNeg) (-1)) := ⟨_, rfl⟩
      rw [← e_s8] at hP
      have hq := hq s8 e_s8
      refine lv_aload_n hx hb d_PR_add_65 rfl (lv_at hl 0 rfl) ?_
      refine lv_dup hx hb d_PR_add_66 rfl ?_
      refine cw_get (C := R_PR) (T := F_PR) (N := 8) (v := .int (gI s8 8)) hx hb hts (in_PR _) hown hK hP 1 (by decide) rfl rfl 4 (by decide) (ht _ wC_90) rfl d_PR_add_67 ?_
      refine lv_iconst (v := 1) hx hb d_PR_add_70 (by decide) ?_
      refine lv_iadd hx hb d_PR_add_71 ?_
      refine cw_put (C := R_PR) (T := F_PR) (N := 8) (ty := .int) (v := .int ((gI s8 8) + 1)) hx hb hts (in_PR _) t_PR tok_PR n_PR hown hK hP hi hS 1 (by decide) rfl rfl 4 (by decide) (ht _ wC_90) rfl (by decide +kernel) rfl rfl (Nat.le_of_ble_eq_true rfl) up_PR_size d_PR_add_72 (fun H locs hP hS => ?_)
      obtain ⟨s9, e_s9⟩ : ∃ z, z = sI s8 8 ((gI s8 8) + 1) := ⟨_, rfl⟩
      rw [← e_s9] at hP
      have hq := hq s9 e_s9
      refine lv_aload_n hx hb d_PR_add_75 rfl (lv_at hl 0 rfl) ?_
      refine cw_get (C := R_PR) (T := F_PR) (N := 8) (v := .int (gI s9 8)) hx hb hts (in_PR _) hown hK hP 1 (by decide) rfl rfl 4 (by decide) (ht _ wC_90) rfl d_PR_add_76 ?_
      refine lv_iconst (v := 1) hx hb d_PR_add_79 (by decide) ?_
      refine lv_isub hx hb d_PR_add_80 ?_
      exact W.iret hx hb hr (fun t ht hW => ⟨⟨((gI s9 8) - 1), s9, rfl, hq, by rw [ht]; exact hP, va_K.moved hW.alike hK, hN.warm hW⟩, hS.F ht⟩) hS.2.2 d_PR_add_81
  · have hq := hq.1 c3
    refine lv_iconst (v := (-1)) hx hb d_PR_add_36 (by decide) ?_
    refine lv_goto (tgt := 41) hx hb d_PR_add_37 (by decide) ?_
    refine cw_iast hx hb hK hP hi hS 4 (by decide) rfl 0 rfl hq.1 upa_2 d_PR_add_41 (fun H locs hP hS => ?_)
    have hq := hq.2
    obtain ⟨s10, e_s10⟩ : ∃ z, z = sA s2 2 (upd (gA s2 2) ((gI s2 8).toNatClampNeg) (-1)) := ⟨_, rfl⟩
    rw [← e_s10] at hP
    have hq := hq s10 e_s10
    refine lv_aload_n hx hb d_PR_add_42 rfl (lv_at hl 0 rfl) ?_
    refine cw_get (C := R_PR) (T := F_PR) (N := 8) (v := .ref (ad 5)) hx hb hts (in_PR _) hown hK hP 1 (by decide) rfl rfl 3 (by decide) (ht _ wC_87) rfl d_PR_add_43 ?_
    refine lv_aload_n hx hb d_PR_add_46 rfl (lv_at hl 0 rfl) ?_
    refine cw_get (C := R_PR) (T := F_PR) (N := 8) (v := .int (gI s10 8)) hx hb hts (in_PR _) hown hK hP 1 (by decide) rfl rfl 4 (by decide) (ht _ wC_90) rfl d_PR_add_47 ?_
    refine va_gets hx hb hZC hS hown (ht _ wC_273) (fun _ h => h) d_PR_add_50 ?_
    refine lv_iload_n hx hb d_PR_add_53 rfl (lv_at hl 1 rfl) ?_
    refine va_ti hx hb hTC hS hq.1 rfl d_PR_add_54 ?_
    have hq := hq.2
    refine lv_if_ne (tgt := 62) hx hb d_PR_add_55 (by decide) (fun c11 => ?_) (fun c11 => ?_)
    · have hq := hq.2 c11
      refine lv_iload hx hb d_PR_add_62 (lv_at hl 4 rfl) ?_
      refine cw_iast hx hb hK hP hi hS 5 (by decide) rfl 0 rfl hq.1 upa_3 d_PR_add_64 (fun H locs hP hS => ?_)
      have hq := hq.2
      obtain ⟨s12, e_s12⟩ : ∃ z, z = sA s10 3 (upd (gA s10 3) ((gI s10 8).toNatClampNeg) p4) := ⟨_, rfl⟩
      rw [← e_s12] at hP
      have hq := hq s12 e_s12
      refine lv_aload_n hx hb d_PR_add_65 rfl (lv_at hl 0 rfl) ?_
      refine lv_dup hx hb d_PR_add_66 rfl ?_
      refine cw_get (C := R_PR) (T := F_PR) (N := 8) (v := .int (gI s12 8)) hx hb hts (in_PR _) hown hK hP 1 (by decide) rfl rfl 4 (by decide) (ht _ wC_90) rfl d_PR_add_67 ?_
      refine lv_iconst (v := 1) hx hb d_PR_add_70 (by decide) ?_
      refine lv_iadd hx hb d_PR_add_71 ?_
      refine cw_put (C := R_PR) (T := F_PR) (N := 8) (ty := .int) (v := .int ((gI s12 8) + 1)) hx hb hts (in_PR _) t_PR tok_PR n_PR hown hK hP hi hS 1 (by decide) rfl rfl 4 (by decide) (ht _ wC_90) rfl (by decide +kernel) rfl rfl (Nat.le_of_ble_eq_true rfl) up_PR_size d_PR_add_72 (fun H locs hP hS => ?_)
      obtain ⟨s13, e_s13⟩ : ∃ z, z = sI s12 8 ((gI s12 8) + 1) := ⟨_, rfl⟩
      rw [← e_s13] at hP
      have hq := hq s13 e_s13
      refine lv_aload_n hx hb d_PR_add_75 rfl (lv_at hl 0 rfl) ?_
      refine cw_get (C := R_PR) (T := F_PR) (N := 8) (v := .int (gI s13 8)) hx hb hts (in_PR _) hown hK hP 1 (by decide) rfl rfl 4 (by decide) (ht _ wC_90) rfl d_PR_add_76 ?_
      refine lv_iconst (v := 1) hx hb d_PR_add_79 (by decide) ?_
      refine lv_isub hx hb d_PR_add_80 ?_
      exact W.iret hx hb hr (fun t ht hW => ⟨⟨((gI s13 8) - 1), s13, rfl, hq, by rw [ht]; exact hP, va_K.moved hW.alike hK, hN.warm hW⟩, hS.F ht⟩) hS.2.2 d_PR_add_81
    · have hq := hq.1 c11
      refine lv_iconst (v := (-1)) hx hb d_PR_add_58 (by decide) ?_
      refine lv_goto (tgt := 64) hx hb d_PR_add_59 (by decide) ?_
      refine cw_iast hx hb hK hP hi hS 5 (by decide) rfl 0 rfl hq.1 upa_3 d_PR_add_64 (fun H locs hP hS => ?_)
      have hq := hq.2
      obtain ⟨s14, e_s14⟩ : ∃ z, z = sA s10 3 (upd (gA s10 3) ((gI s10 8).toNatClampNeg) (-1)) := ⟨_, rfl⟩
      rw [← e_s14] at hP
      have hq := hq s14 e_s14
      refine lv_aload_n hx hb d_PR_add_65 rfl (lv_at hl 0 rfl) ?_
      refine lv_dup hx hb d_PR_add_66 rfl ?_
      refine cw_get (C := R_PR) (T := F_PR) (N := 8) (v := .int (gI s14 8)) hx hb hts (in_PR _) hown hK hP 1 (by decide) rfl rfl 4 (by decide) (ht _ wC_90) rfl d_PR_add_67 ?_
      refine lv_iconst (v := 1) hx hb d_PR_add_70 (by decide) ?_
      refine lv_iadd hx hb d_PR_add_71 ?_
      refine cw_put (C := R_PR) (T := F_PR) (N := 8) (ty := .int) (v := .int ((gI s14 8) + 1)) hx hb hts (in_PR _) t_PR tok_PR n_PR hown hK hP hi hS 1 (by decide) rfl rfl 4 (by decide) (ht _ wC_90) rfl (by decide +kernel) rfl rfl (Nat.le_of_ble_eq_true rfl) up_PR_size d_PR_add_72 (fun H locs hP hS => ?_)
      obtain ⟨s15, e_s15⟩ : ∃ z, z = sI s14 8 ((gI s14 8) + 1) := ⟨_, rfl⟩
      rw [← e_s15] at hP
      have hq := hq s15 e_s15
      refine lv_aload_n hx hb d_PR_add_75 rfl (lv_at hl 0 rfl) ?_
      refine cw_get (C := R_PR) (T := F_PR) (N := 8) (v := .int (gI s15 8)) hx hb hts (in_PR _) hown hK hP 1 (by decide) rfl rfl 4 (by decide) (ht _ wC_90) rfl d_PR_add_76 ?_
      refine lv_iconst (v := 1) hx hb d_PR_add_79 (by decide) ?_
      refine lv_isub hx hb d_PR_add_80 ?_
      exact W.iret hx hb hr (fun t ht hW => ⟨⟨((gI s15 8) - 1), s15, rfl, hq, by rw [ht]; exact hP, va_K.moved hW.alike hK, hN.warm hW⟩, hS.F ht⟩) hS.2.2 d_PR_add_81
def wp_NF_throwFault (p1 : Int32) (σ : CS) (Q : CS → Prop) (X : String → CS → Prop) : Prop := ((p1 = 1 → X "java/lang/ArithmeticException" σ) ∧ (¬ p1 = 1 → ((p1 = 2 → X "java/lang/ArithmeticException" σ) ∧ (¬ p1 = 2 → ((p1 = 3 → X "java/lang/IndexOutOfBoundsException" σ) ∧ (¬ p1 = 3 → ((p1 = 4 → X "java/lang/UnsupportedOperationException" σ) ∧ (¬ p1 = 4 → ((p1 = 5 → X "java/util/NoSuchElementException" σ) ∧ (¬ p1 = 5 → ((p1 = 6 → X "java/lang/UnsupportedOperationException" σ) ∧ (¬ p1 = 6 → ((p1 = 7 → X "java/lang/IllegalStateException" σ) ∧ (¬ p1 = 7 → ((p1 = 8 → X "java/lang/IllegalStateException" σ) ∧ (¬ p1 = 8 → Q σ))))))))))))))))
set_option maxHeartbeats 4000000 in
set_option maxRecDepth 100000 in
theorem c_NF_throwFault {l : Launch} (hst : l.stackTraces = false) {D : va_G} {cs : CI} {ad : Nat → Nat} (hi : aI ad 51) {p1 : Int32} {σ : CS} {Q : CS → Prop} {X : String → CS → Prop} (hq : wp_NF_throwFault p1 σ Q X) : vx_Met l y_NF_throwFault (.code y_NF_throwFault b_NF_throwFault 1 none :: wC) ({ frames := 6, cells := 1, slots := 6, locals := 90 }) (va_Pc [.int p1] (fun U => cP D cs ad σ U ∧ XW (aK ad 51) U)) (va_Qv Q (cP D cs ad) (aK ad 51)) (vx_X (fun _ : CS => True) (fun E u t => X E u ∧ va_P D clA (wd ad (cont ad cs u) 51) t.heap) (aK ad 51)) 1 6 (aK ad 51) := by
  refine vx_ofW (cc := b_NF_throwFault) (maxL := 1) (ret := none) (by decide) rfl ?_
  intro p e s m args below meth c s₁ B hml hex hv
  obtain ⟨rfl, ⟨hP, hK, hN⟩, hXW⟩ := hv
  obtain ⟨⟨tA, tB, tC, hZA, hTA, hZB, hTB, hZC, hTC⟩, hXS, hU0, hN0⟩ := id hXW
  have hx := B.exec
  have hb := B.bytes
  have hr := B.returns
  have hts := atoms_spec (ws := .code y_NF_throwFault b_NF_throwFault 1 none :: wC) B.pre
  have ht : ∀ w ∈ wC, w.before _ s = true := fun w h => hts w (List.mem_cons_of_mem _ h)
  have hown : s.vm.findClass R_NF = some m.cls := findClass_of_methodNamed B.named
  have hlocks := B.notSynchronized
  have hS : va_S (aK ad 51) s.heap s.heap [] := va_S.rf
  have hl := lv_entry ([.int p1]) (n := 1) (Nat.le_of_ble_eq_true rfl)
  rw [lg_entry_eq]
  generalize (lg_sl ([.int p1]) ++ List.replicate (1 - (lg_sl ([.int p1])).length) Slot.unset).toArray = ls at hl ⊢
  have hl : lv_has ls 1 [(0, .int p1)] := hl
  unfold wp_NF_throwFault at hq
  refine lv_iload_n hx hb d_NF_throwFault_0 rfl (lv_at hl 0 rfl) ?_
  by_cases c1 : p1 = 1
  · have hq := hq.1 c1
    refine lv_tableIn (tgt := 48) hx hb d_NF_throwFault_1 (by rw [c1]; decide) (by rw [c1]; decide) (by rw [c1]; rfl) (by decide) ?_
    obtain ⟨sa, hsa⟩ := hXS 160 "divided by 0" (by simp [xsL])
    exact vx_throwS hx hb hst (own := R_NF) (cls := "java/lang/ArithmeticException") (names := ["java/lang/RuntimeException", "java/lang/Exception"]) (text := "divided by 0") (A := aK ad 51) hown (by decide +kernel) (by decide +kernel) (ht _ wC_574) (ht _ wC_57) hsa (th_ArithmeticException (fun w h => hts w h) hN) tho_ArithmeticException hU0 hN0 hS (by rw [hml]; exact hl.1) d_NF_throwFault_48 d_NF_throwFault_51 d_NF_throwFault_52 d_NF_throwFault_54 d_NF_throwFault_57 (fun x hx9 => (hex x hx9).elim) (show 2 + 3 < 6 by omega) (show _ ≤ 90 by simp only [List.map_cons, List.map_nil, List.sum_cons, List.sum_nil, Value.category, List.length_cons, List.length_nil]; omega) (Nat.le_of_ble_eq_true rfl) (Nat.le_of_ble_eq_true rfl) hlocks (fun t hv hz hk => ⟨σ, trivial, ⟨hq, hP.kept (fun k q h9 => hk _ (vx_lt hP h9))⟩, ⟨Nat.le_trans hS.1 hz, fun q h1 h2 => (hk q (Nat.lt_of_lt_of_le h1 hS.1)).trans (hS.2.1 q h1 h2)⟩⟩) hS.2.2 (Nat.le_of_ble_eq_true rfl) (Nat.le_of_ble_eq_true rfl)
  have hq := hq.2 c1
  by_cases c2 : p1 = 2
  · have hq := hq.1 c2
    refine lv_tableIn (tgt := 58) hx hb d_NF_throwFault_1 (by rw [c2]; decide) (by rw [c2]; decide) (by rw [c2]; rfl) (by decide) ?_
    obtain ⟨sa, hsa⟩ := hXS 163 "beyond 1e9 in size" (by simp [xsL])
    exact vx_throwS hx hb hst (own := R_NF) (cls := "java/lang/ArithmeticException") (names := ["java/lang/RuntimeException", "java/lang/Exception"]) (text := "beyond 1e9 in size") (A := aK ad 51) hown (by decide +kernel) (by decide +kernel) (ht _ wC_574) (ht _ wC_57) hsa (th_ArithmeticException (fun w h => hts w h) hN) tho_ArithmeticException hU0 hN0 hS (by rw [hml]; exact hl.1) d_NF_throwFault_58 d_NF_throwFault_61 d_NF_throwFault_62 d_NF_throwFault_64 d_NF_throwFault_67 (fun x hx9 => (hex x hx9).elim) (show 2 + 3 < 6 by omega) (show _ ≤ 90 by simp only [List.map_cons, List.map_nil, List.sum_cons, List.sum_nil, Value.category, List.length_cons, List.length_nil]; omega) (Nat.le_of_ble_eq_true rfl) (Nat.le_of_ble_eq_true rfl) hlocks (fun t hv hz hk => ⟨σ, trivial, ⟨hq, hP.kept (fun k q h9 => hk _ (vx_lt hP h9))⟩, ⟨Nat.le_trans hS.1 hz, fun q h1 h2 => (hk q (Nat.lt_of_lt_of_le h1 hS.1)).trans (hS.2.1 q h1 h2)⟩⟩) hS.2.2 (Nat.le_of_ble_eq_true rfl) (Nat.le_of_ble_eq_true rfl)
  have hq := hq.2 c2
  by_cases c3 : p1 = 3
  · have hq := hq.1 c3
    refine lv_tableIn (tgt := 68) hx hb d_NF_throwFault_1 (by rw [c3]; decide) (by rw [c3]; decide) (by rw [c3]; rfl) (by decide) ?_
    obtain ⟨sa, hsa⟩ := hXS 165 "an element that is not there" (by simp [xsL])
    exact vx_throwS hx hb hst (own := R_NF) (cls := "java/lang/IndexOutOfBoundsException") (names := ["java/lang/RuntimeException", "java/lang/Exception"]) (text := "an element that is not there") (A := aK ad 51) hown (by decide +kernel) (by decide +kernel) (ht _ wC_591) (ht _ wC_58) hsa (th_IndexOutOfBoundsException (fun w h => hts w h) hN) tho_IndexOutOfBoundsException hU0 hN0 hS (by rw [hml]; exact hl.1) d_NF_throwFault_68 d_NF_throwFault_71 d_NF_throwFault_72 d_NF_throwFault_74 d_NF_throwFault_77 (fun x hx9 => (hex x hx9).elim) (show 2 + 3 < 6 by omega) (show _ ≤ 90 by simp only [List.map_cons, List.map_nil, List.sum_cons, List.sum_nil, Value.category, List.length_cons, List.length_nil]; omega) (Nat.le_of_ble_eq_true rfl) (Nat.le_of_ble_eq_true rfl) hlocks (fun t hv hz hk => ⟨σ, trivial, ⟨hq, hP.kept (fun k q h9 => hk _ (vx_lt hP h9))⟩, ⟨Nat.le_trans hS.1 hz, fun q h1 h2 => (hk q (Nat.lt_of_lt_of_le h1 hS.1)).trans (hS.2.1 q h1 h2)⟩⟩) hS.2.2 (Nat.le_of_ble_eq_true rfl) (Nat.le_of_ble_eq_true rfl)
  have hq := hq.2 c3
  by_cases c4 : p1 = 4
  · have hq := hq.1 c4
    refine lv_tableIn (tgt := 78) hx hb d_NF_throwFault_1 (by rw [c4]; decide) (by rw [c4]; decide) (by rw [c4]; rfl) (by decide) ?_
    obtain ⟨sa, hsa⟩ := hXS 169 "a parameter, local, body or argument that is not there" (by simp [xsL])
    exact vx_throwS hx hb hst (own := R_NF) (cls := "java/lang/UnsupportedOperationException") (names := ["java/lang/RuntimeException", "java/lang/Exception"]) (text := "a parameter, local, body or argument that is not there") (A := aK ad 51) hown (by decide +kernel) (by decide +kernel) (ht _ wC_607) (ht _ wC_59) hsa (th_UnsupportedOperationException (fun w h => hts w h) hN) tho_UnsupportedOperationException hU0 hN0 hS (by rw [hml]; exact hl.1) d_NF_throwFault_78 d_NF_throwFault_81 d_NF_throwFault_82 d_NF_throwFault_84 d_NF_throwFault_87 (fun x hx9 => (hex x hx9).elim) (show 2 + 3 < 6 by omega) (show _ ≤ 90 by simp only [List.map_cons, List.map_nil, List.sum_cons, List.sum_nil, Value.category, List.length_cons, List.length_nil]; omega) (Nat.le_of_ble_eq_true rfl) (Nat.le_of_ble_eq_true rfl) hlocks (fun t hv hz hk => ⟨σ, trivial, ⟨hq, hP.kept (fun k q h9 => hk _ (vx_lt hP h9))⟩, ⟨Nat.le_trans hS.1 hz, fun q h1 h2 => (hk q (Nat.lt_of_lt_of_le h1 hS.1)).trans (hS.2.1 q h1 h2)⟩⟩) hS.2.2 (Nat.le_of_ble_eq_true rfl) (Nat.le_of_ble_eq_true rfl)
  have hq := hq.2 c4
  by_cases c5 : p1 = 5
  · have hq := hq.1 c5
    refine lv_tableIn (tgt := 88) hx hb d_NF_throwFault_1 (by rw [c5]; decide) (by rw [c5]; decide) (by rw [c5]; rfl) (by decide) ?_
    obtain ⟨sa, hsa⟩ := hXS 174 "a jump without its label" (by simp [xsL])
    exact nx_throwS hx hb hst (own := R_NF) (cls := "java/util/NoSuchElementException") (Y := "java/lang/RuntimeException") (b0 := b_NSE) (i0 := 13) (names := ["java/lang/Exception"]) (text := "a jump without its label") (A := aK ad 51) hown (by decide +kernel) (by decide +kernel) (by decide +kernel) (by decide +kernel) (by decide +kernel) (by decide +kernel) (by decide +kernel) (ht _ wC_623) (ht _ wC_60) hsa (th_NoSuchElementException (fun w h => hts w h) hN) tho_NoSuchElementException hU0 hN0 hS (by rw [hml]; exact hl.1) d_NF_throwFault_88 d_NF_throwFault_91 d_NF_throwFault_92 d_NF_throwFault_94 d_NF_throwFault_97 (fun x hx9 => (hex x hx9).elim) (show 1 + 4 < 6 by omega) (show _ ≤ 90 by simp only [List.map_cons, List.map_nil, List.sum_cons, List.sum_nil, Value.category, List.length_cons, List.length_nil]; omega) (Nat.le_of_ble_eq_true rfl) (Nat.le_of_ble_eq_true rfl) hlocks (fun t hv hz hk => ⟨σ, trivial, ⟨hq, hP.kept (fun k q h9 => hk _ (vx_lt hP h9))⟩, ⟨Nat.le_trans hS.1 hz, fun q h1 h2 => (hk q (Nat.lt_of_lt_of_le h1 hS.1)).trans (hS.2.1 q h1 h2)⟩⟩) hS.2.2 (Nat.le_of_ble_eq_true rfl) (Nat.le_of_ble_eq_true rfl)
  have hq := hq.2 c5
  by_cases c6 : p1 = 6
  · have hq := hq.1 c6
    refine lv_tableIn (tgt := 98) hx hb d_NF_throwFault_1 (by rw [c6]; decide) (by rw [c6]; decide) (by rw [c6]; rfl) (by decide) ?_
    obtain ⟨sa, hsa⟩ := hXS 177 "a node that can't be set" (by simp [xsL])
    exact vx_throwS hx hb hst (own := R_NF) (cls := "java/lang/UnsupportedOperationException") (names := ["java/lang/RuntimeException", "java/lang/Exception"]) (text := "a node that can't be set") (A := aK ad 51) hown (by decide +kernel) (by decide +kernel) (ht _ wC_607) (ht _ wC_59) hsa (th_UnsupportedOperationException (fun w h => hts w h) hN) tho_UnsupportedOperationException hU0 hN0 hS (by rw [hml]; exact hl.1) d_NF_throwFault_98 d_NF_throwFault_101 d_NF_throwFault_102 d_NF_throwFault_104 d_NF_throwFault_107 (fun x hx9 => (hex x hx9).elim) (show 2 + 3 < 6 by omega) (show _ ≤ 90 by simp only [List.map_cons, List.map_nil, List.sum_cons, List.sum_nil, Value.category, List.length_cons, List.length_nil]; omega) (Nat.le_of_ble_eq_true rfl) (Nat.le_of_ble_eq_true rfl) hlocks (fun t hv hz hk => ⟨σ, trivial, ⟨hq, hP.kept (fun k q h9 => hk _ (vx_lt hP h9))⟩, ⟨Nat.le_trans hS.1 hz, fun q h1 h2 => (hk q (Nat.lt_of_lt_of_le h1 hS.1)).trans (hS.2.1 q h1 h2)⟩⟩) hS.2.2 (Nat.le_of_ble_eq_true rfl) (Nat.le_of_ble_eq_true rfl)
  have hq := hq.2 c6
  by_cases c7 : p1 = 7
  · have hq := hq.1 c7
    refine lv_tableIn (tgt := 108) hx hb d_NF_throwFault_1 (by rw [c7]; decide) (by rw [c7]; decide) (by rw [c7]; rfl) (by decide) ?_
    obtain ⟨sa, hsa⟩ := hXS 179 "too many environments or nodes one in another" (by simp [xsL])
    exact vx_throwS hx hb hst (own := R_NF) (cls := "java/lang/IllegalStateException") (names := ["java/lang/RuntimeException", "java/lang/Exception"]) (text := "too many environments or nodes one in another") (A := aK ad 51) hown (by decide +kernel) (by decide +kernel) (ht _ wC_346) (ht _ wC_55) hsa (th_IllegalStateException (fun w h => hts w h) hN) tho_IllegalStateException hU0 hN0 hS (by rw [hml]; exact hl.1) d_NF_throwFault_108 d_NF_throwFault_111 d_NF_throwFault_112 d_NF_throwFault_114 d_NF_throwFault_117 (fun x hx9 => (hex x hx9).elim) (show 2 + 3 < 6 by omega) (show _ ≤ 90 by simp only [List.map_cons, List.map_nil, List.sum_cons, List.sum_nil, Value.category, List.length_cons, List.length_nil]; omega) (Nat.le_of_ble_eq_true rfl) (Nat.le_of_ble_eq_true rfl) hlocks (fun t hv hz hk => ⟨σ, trivial, ⟨hq, hP.kept (fun k q h9 => hk _ (vx_lt hP h9))⟩, ⟨Nat.le_trans hS.1 hz, fun q h1 h2 => (hk q (Nat.lt_of_lt_of_le h1 hS.1)).trans (hS.2.1 q h1 h2)⟩⟩) hS.2.2 (Nat.le_of_ble_eq_true rfl) (Nat.le_of_ble_eq_true rfl)
  have hq := hq.2 c7
  by_cases c8 : p1 = 8
  · have hq := hq.1 c8
    refine lv_tableIn (tgt := 118) hx hb d_NF_throwFault_1 (by rw [c8]; decide) (by rw [c8]; decide) (by rw [c8]; rfl) (by decide) ?_
    obtain ⟨sa, hsa⟩ := hXS 181 "too many nodes worked out" (by simp [xsL])
    exact vx_throwS hx hb hst (own := R_NF) (cls := "java/lang/IllegalStateException") (names := ["java/lang/RuntimeException", "java/lang/Exception"]) (text := "too many nodes worked out") (A := aK ad 51) hown (by decide +kernel) (by decide +kernel) (ht _ wC_346) (ht _ wC_55) hsa (th_IllegalStateException (fun w h => hts w h) hN) tho_IllegalStateException hU0 hN0 hS (by rw [hml]; exact hl.1) d_NF_throwFault_118 d_NF_throwFault_121 d_NF_throwFault_122 d_NF_throwFault_124 d_NF_throwFault_127 (fun x hx9 => (hex x hx9).elim) (show 2 + 3 < 6 by omega) (show _ ≤ 90 by simp only [List.map_cons, List.map_nil, List.sum_cons, List.sum_nil, Value.category, List.length_cons, List.length_nil]; omega) (Nat.le_of_ble_eq_true rfl) (Nat.le_of_ble_eq_true rfl) hlocks (fun t hv hz hk => ⟨σ, trivial, ⟨hq, hP.kept (fun k q h9 => hk _ (vx_lt hP h9))⟩, ⟨Nat.le_trans hS.1 hz, fun q h1 h2 => (hk q (Nat.lt_of_lt_of_le h1 hS.1)).trans (hS.2.1 q h1 h2)⟩⟩) hS.2.2 (Nat.le_of_ble_eq_true rfl) (Nat.le_of_ble_eq_true rfl)
  have hq := hq.2 c8
  refine cw_tabD (tgt := 128) hx hb d_NF_throwFault_1 (by decide) ?_ ?_
  · have e_c1 := lv_neT c1 (a := 1) rfl; have e_c2 := lv_neT c2 (a := 2) rfl; have e_c3 := lv_neT c3 (a := 3) rfl; have e_c4 := lv_neT c4 (a := 4) rfl; have e_c5 := lv_neT c5 (a := 5) rfl; have e_c6 := lv_neT c6 (a := 6) rfl; have e_c7 := lv_neT c7 (a := 7) rfl; have e_c8 := lv_neT c8 (a := 8) rfl
    have g3 : p1.toInt < 1 ∨ 8 < p1.toInt := by omega
    exact g3.elim Or.inl (fun g => Or.inr (Or.inl g))
  refine W.widen (k := 1) (n := 6) (by decide) (by decide) ?_
  exact vx_ret (W.vret hx hb hr (fun t ht hW => ⟨⟨σ, rfl, hq, by rw [ht]; exact hP, va_K.moved hW.alike hK, hN.warm hW⟩, hS.F ht⟩) hS.2.2 d_NF_throwFault_128)
def wp_NF_make (p1 : Int32) (p2 : Int32) (p3 : Int32) (p4 : Int32) (σ : CS) (Q : Int32 → CS → Prop) (X : String → CS → Prop) : Prop := (wp_PR_takes p1 p2 p3 p4 σ (fun r1 s2 => ((r1 = 0 → X "java/lang/IllegalArgumentException" s2) ∧ (¬ r1 = 0 → (((gI s2 8) = 48 → X "java/lang/IllegalStateException" s2) ∧ (¬ (gI s2 8) = 48 → (wp_PR_add p1 p2 p3 p4 s2 (fun r5 s6 => Q r5 s6))))))))
set_option maxHeartbeats 4000000 in
set_option maxRecDepth 100000 in
theorem c_NF_make {l : Launch} (hst : l.stackTraces = false) {D : va_G} {cs : CI} {ad : Nat → Nat} (hi : aI ad 51) {p1 : Int32} {p2 : Int32} {p3 : Int32} {p4 : Int32} {σ : CS} {Q : Int32 → CS → Prop} {X : String → CS → Prop} (hq : wp_NF_make p1 p2 p3 p4 σ Q X) : vx_Met l y_NF_make (.code y_NF_make b_NF_make 5 (some .int) :: wC) ({ frames := 6, cells := 1, slots := 6, locals := 90 }) (va_Pc [.ref (ad 0), .int p1, .int p2, .int p3, .int p4] (fun U => cP D cs ad σ U ∧ XW (aK ad 51) U)) (va_Qi Q (cP D cs ad) (aK ad 51)) (vx_X (fun _ : CS => True) (fun E u t => X E u ∧ va_P D clA (wd ad (cont ad cs u) 51) t.heap) (aK ad 51)) 1 6 (aK ad 51) := by
  refine vx_ofW (cc := b_NF_make) (maxL := 5) (ret := (some .int)) (by decide) rfl ?_
  intro p e s m args below meth c s₁ B hml hex hv
  obtain ⟨rfl, ⟨hP, hK, hN⟩, hXW⟩ := hv
  obtain ⟨⟨tA, tB, tC, hZA, hTA, hZB, hTB, hZC, hTC⟩, hXS, hU0, hN0⟩ := id hXW
  have hx := B.exec
  have hb := B.bytes
  have hr := B.returns
  have hts := atoms_spec (ws := .code y_NF_make b_NF_make 5 (some .int) :: wC) B.pre
  have ht : ∀ w ∈ wC, w.before _ s = true := fun w h => hts w (List.mem_cons_of_mem _ h)
  have hown : s.vm.findClass R_NF = some m.cls := findClass_of_methodNamed B.named
  have hlocks := B.notSynchronized
  have hS : va_S (aK ad 51) s.heap s.heap [] := va_S.rf
  have hl := lv_entry ([.ref (ad 0), .int p1, .int p2, .int p3, .int p4]) (n := 5) (Nat.le_of_ble_eq_true rfl)
  rw [lg_entry_eq]
  generalize (lg_sl ([.ref (ad 0), .int p1, .int p2, .int p3, .int p4]) ++ List.replicate (5 - (lg_sl ([.ref (ad 0), .int p1, .int p2, .int p3, .int p4])).length) Slot.unset).toArray = ls at hl ⊢
  have hl : lv_has ls 5 [(0, .ref (ad 0)), (1, .int p1), (2, .int p2), (3, .int p3), (4, .int p4)] := hl
  unfold wp_NF_make at hq
  refine lv_aload_n hx hb d_NF_make_0 rfl (lv_at hl 0 rfl) ?_
  refine cw_get (C := R_NF) (T := F_NF) (N := 3) (v := .ref (ad 1)) hx hb hts (in_NF _) hown hK hP 0 (by decide) rfl rfl 0 (by decide) (ht _ wC_227) rfl d_NF_make_1 ?_
  refine lv_iload_n hx hb d_NF_make_4 rfl (lv_at hl 1 rfl) ?_
  refine lv_iload_n hx hb d_NF_make_5 rfl (lv_at hl 2 rfl) ?_
  refine lv_iload_n hx hb d_NF_make_6 rfl (lv_at hl 3 rfl) ?_
  refine lv_iload hx hb d_NF_make_7 (lv_at hl 4 rfl) ?_
  refine va_calli (va_runV (As := [.int p1, .int p2, .int p3, .int p4]) (rest := []) ⟨hx, hb, hml, hown, hts⟩ (c_PR_takes (D := D) (cs := cs) hi hq) (cwV 4 hts (good_V wC_254 wC_255 wC_256 wC_45 wC_257) rfl rfl rfl (by decide +kernel) ⟨(show 3 + 1 ≤ 6 by omega), (show 8 + (5 + 11) + 64 ≤ 90 by omega)⟩) ⟨pP_blind, va_recv hK hP (ci := 2) (q0 := 1) rfl (wd_at (by decide) rfl), fun U hU hW => ⟨rfl, ⟨by rw [hU]; exact hP, va_K.moved hW.alike hK, hN.warm hW⟩, hXW.to hS hU hW⟩⟩ rfl rfl hl.1 rfl (lv_room (Nat.le_of_ble_eq_true rfl)) d_NF_make_9 ⟨Nat.le_of_ble_eq_true rfl, Nat.le_of_ble_eq_true rfl⟩) hS (fun q _ h => h) (fun q h => h) (fun r1 s2 t H locs ht0 hvm hq hB hz1 hk1 hS => ?_)
  obtain ⟨hP, -, -⟩ := hB
  rw [ht0] at hP
  refine lv_if_ne (tgt := 25) hx hb d_NF_make_12 (by decide) (fun c3 => ?_) (fun c3 => ?_)
  · have hq := hq.2 c3
    refine lv_aload_n hx hb d_NF_make_25 rfl (lv_at hl 0 rfl) ?_
    refine cw_get (C := R_NF) (T := F_NF) (N := 3) (v := .ref (ad 1)) hx hb hts (in_NF _) hown hK hP 0 (by decide) rfl rfl 0 (by decide) (ht _ wC_227) rfl d_NF_make_26 ?_
    refine cw_get (C := R_PR) (T := F_PR) (N := 8) (v := .int (gI s2 8)) hx hb hts (in_PR _) hown hK hP 1 (by decide) rfl rfl 4 (by decide) (ht _ wC_91) rfl d_NF_make_29 ?_
    refine lv_bipush (v := 48) hx hb d_NF_make_32 (by decide) ?_
    refine lv_icmp_ne (tgt := 47) hx hb d_NF_make_34 (by decide) (fun c4 => ?_) (fun c4 => ?_)
    · have hq := hq.2 c4
      refine lv_aload_n hx hb d_NF_make_47 rfl (lv_at hl 0 rfl) ?_
      refine cw_get (C := R_NF) (T := F_NF) (N := 3) (v := .ref (ad 1)) hx hb hts (in_NF _) hown hK hP 0 (by decide) rfl rfl 0 (by decide) (ht _ wC_227) rfl d_NF_make_48 ?_
      refine lv_iload_n hx hb d_NF_make_51 rfl (lv_at hl 1 rfl) ?_
      refine lv_iload_n hx hb d_NF_make_52 rfl (lv_at hl 2 rfl) ?_
      refine lv_iload_n hx hb d_NF_make_53 rfl (lv_at hl 3 rfl) ?_
      refine lv_iload hx hb d_NF_make_54 (lv_at hl 4 rfl) ?_
      refine va_calli (va_runV (As := [.int p1, .int p2, .int p3, .int p4]) (rest := []) ⟨hx, hb, hml, hown, hts⟩ (c_PR_add (D := D) (cs := cs) hi hq) (cwV 4 hts (good_V wC_362 wC_363 wC_364 wC_45 wC_365) rfl rfl rfl (by decide +kernel) ⟨(show 0 + 1 ≤ 6 by omega), (show 8 + (5 + 11) + 0 ≤ 90 by omega)⟩) ⟨pP_blind, va_recv hK hP (ci := 2) (q0 := 1) rfl (wd_at (by decide) rfl), fun U hU hW => ⟨rfl, ⟨by rw [hU]; exact hP, va_K.moved hW.alike hK, hN.warm hW⟩, hXW.to hS hU hW⟩⟩ rfl rfl hl.1 rfl (lv_room (Nat.le_of_ble_eq_true rfl)) d_NF_make_56 ⟨Nat.le_of_ble_eq_true rfl, Nat.le_of_ble_eq_true rfl⟩) hS (fun q _ h => h) (fun q h => h) (fun r5 s6 t H locs ht0 hvm hq hB hz1 hk1 hS => ?_)
      obtain ⟨hP, -, -⟩ := hB
      rw [ht0] at hP
      refine W.widen (k := 1) (n := 6) (by decide) (by decide) ?_
      exact vx_ret (W.iret hx hb hr (fun t ht hW => ⟨⟨r5, s6, rfl, hq, by rw [ht]; exact hP, va_K.moved hW.alike hK, hN.warm hW⟩, hS.F ht⟩) hS.2.2 d_NF_make_59)
    · have hq := hq.1 c4
      obtain ⟨sa, hsa⟩ := hXS 49 "no room for another node" (by simp [xsL])
      exact vx_throwS hx hb hst (own := R_NF) (cls := "java/lang/IllegalStateException") (names := ["java/lang/RuntimeException", "java/lang/Exception"]) (text := "no room for another node") (A := aK ad 51) hown (by decide +kernel) (by decide +kernel) (ht _ wC_346) (ht _ wC_55) hsa (th_IllegalStateException (fun w h => hts w h) hN) tho_IllegalStateException hU0 hN0 hS (by rw [hml]; exact hl.1) d_NF_make_37 d_NF_make_40 d_NF_make_41 d_NF_make_43 d_NF_make_46 (fun x hx9 => (hex x hx9).elim) (show 2 + 3 < 6 by omega) (show _ ≤ 90 by simp only [List.map_cons, List.map_nil, List.sum_cons, List.sum_nil, Value.category, List.length_cons, List.length_nil]; omega) (Nat.le_of_ble_eq_true rfl) (Nat.le_of_ble_eq_true rfl) hlocks (fun t hv hz hk => ⟨s2, trivial, ⟨hq, hP.kept (fun k q h9 => hk _ (vx_lt hP h9))⟩, ⟨Nat.le_trans hS.1 hz, fun q h1 h2 => (hk q (Nat.lt_of_lt_of_le h1 hS.1)).trans (hS.2.1 q h1 h2)⟩⟩) hS.2.2 (Nat.le_of_ble_eq_true rfl) (Nat.le_of_ble_eq_true rfl)
  · have hq := hq.1 c3
    obtain ⟨sa, hsa⟩ := hXS 38 "no such kind, or a part that does not fit it" (by simp [xsL])
    exact vx_throwS hx hb hst (own := R_NF) (cls := "java/lang/IllegalArgumentException") (names := ["java/lang/RuntimeException", "java/lang/Exception"]) (text := "no such kind, or a part that does not fit it") (A := aK ad 51) hown (by decide +kernel) (by decide +kernel) (ht _ wC_275) (ht _ wC_54) hsa (th_IllegalArgumentException (fun w h => hts w h) hN) tho_IllegalArgumentException hU0 hN0 hS (by rw [hml]; exact hl.1) d_NF_make_15 d_NF_make_18 d_NF_make_19 d_NF_make_21 d_NF_make_24 (fun x hx9 => (hex x hx9).elim) (show 2 + 3 < 6 by omega) (show _ ≤ 90 by simp only [List.map_cons, List.map_nil, List.sum_cons, List.sum_nil, Value.category, List.length_cons, List.length_nil]; omega) (Nat.le_of_ble_eq_true rfl) (Nat.le_of_ble_eq_true rfl) hlocks (fun t hv hz hk => ⟨s2, trivial, ⟨hq, hP.kept (fun k q h9 => hk _ (vx_lt hP h9))⟩, ⟨Nat.le_trans hS.1 hz, fun q h1 h2 => (hk q (Nat.lt_of_lt_of_le h1 hS.1)).trans (hS.2.1 q h1 h2)⟩⟩) hS.2.2 (Nat.le_of_ble_eq_true rfl) (Nat.le_of_ble_eq_true rfl)
def wp_NF_procedure (p1 : Int32) (p2 : Int32) (p3 : Int32) (p4 : Int32) (σ : CS) (Q : CS → Prop) (X : String → CS → Prop) : Prop := (wp_NF_isBelow p1 4 σ (fun r1 s2 => ((r1 = 0 → X "java/lang/IllegalArgumentException" s2) ∧ (¬ r1 = 0 → (wp_PR_has p2 s2 (fun r4 s5 => ((r4 = 0 → X "java/lang/IllegalArgumentException" s5) ∧ (¬ r4 = 0 → (wp_NF_isBelow p3 3 s5 (fun r7 s8 => ((r7 = 0 → X "java/lang/IllegalArgumentException" s8) ∧ (¬ r7 = 0 → (wp_NF_isBelow p4 4 s8 (fun r10 s11 => ((r10 = 0 → X "java/lang/IllegalArgumentException" s11) ∧ (¬ r10 = 0 → (wp_PR_define p1 p2 p3 p4 s11 (fun s14 => Q s14))))))))))))))))))
set_option maxHeartbeats 4000000 in
set_option maxRecDepth 100000 in
theorem c_NF_procedure {l : Launch} (hst : l.stackTraces = false) {D : va_G} {cs : CI} {ad : Nat → Nat} (hi : aI ad 51) {p1 : Int32} {p2 : Int32} {p3 : Int32} {p4 : Int32} {σ : CS} {Q : CS → Prop} {X : String → CS → Prop} (hq : wp_NF_procedure p1 p2 p3 p4 σ Q X) : vx_Met l y_NF_procedure (.code y_NF_procedure b_NF_procedure 5 none :: wC) ({ frames := 6, cells := 1, slots := 6, locals := 90 }) (va_Pc [.ref (ad 0), .int p1, .int p2, .int p3, .int p4] (fun U => cP D cs ad σ U ∧ XW (aK ad 51) U)) (va_Qv Q (cP D cs ad) (aK ad 51)) (vx_X (fun _ : CS => True) (fun E u t => X E u ∧ va_P D clA (wd ad (cont ad cs u) 51) t.heap) (aK ad 51)) 1 6 (aK ad 51) := by
  refine vx_ofW (cc := b_NF_procedure) (maxL := 5) (ret := none) (by decide) rfl ?_
  intro p e s m args below meth c s₁ B hml hex hv
  obtain ⟨rfl, ⟨hP, hK, hN⟩, hXW⟩ := hv
  obtain ⟨⟨tA, tB, tC, hZA, hTA, hZB, hTB, hZC, hTC⟩, hXS, hU0, hN0⟩ := id hXW
  have hx := B.exec
  have hb := B.bytes
  have hr := B.returns
  have hts := atoms_spec (ws := .code y_NF_procedure b_NF_procedure 5 none :: wC) B.pre
  have ht : ∀ w ∈ wC, w.before _ s = true := fun w h => hts w (List.mem_cons_of_mem _ h)
  have hown : s.vm.findClass R_NF = some m.cls := findClass_of_methodNamed B.named
  have hlocks := B.notSynchronized
  have hS : va_S (aK ad 51) s.heap s.heap [] := va_S.rf
  have hl := lv_entry ([.ref (ad 0), .int p1, .int p2, .int p3, .int p4]) (n := 5) (Nat.le_of_ble_eq_true rfl)
  rw [lg_entry_eq]
  generalize (lg_sl ([.ref (ad 0), .int p1, .int p2, .int p3, .int p4]) ++ List.replicate (5 - (lg_sl ([.ref (ad 0), .int p1, .int p2, .int p3, .int p4])).length) Slot.unset).toArray = ls at hl ⊢
  have hl : lv_has ls 5 [(0, .ref (ad 0)), (1, .int p1), (2, .int p2), (3, .int p3), (4, .int p4)] := hl
  unfold wp_NF_procedure at hq
  refine lv_iload_n hx hb d_NF_procedure_0 rfl (lv_at hl 1 rfl) ?_
  refine lv_iconst (v := 4) hx hb d_NF_procedure_1 (by decide) ?_
  refine va_calli (va_runS (As := [.int p1, .int 4]) (rest := []) ⟨hx, hb, hml, hown, hts⟩ (c_NF_isBelow (D := D) (cs := cs) hi hq) (va_cwS 2 hts (good_S wC_373 wC_259 wC_44 wC_260) rfl rfl rfl (by decide +kernel) ⟨(show 0 + 1 ≤ 6 by omega), (show 8 + (2 + 11) + 0 ≤ 90 by omega)⟩) ⟨cP_blind, fun U hU hW => ⟨rfl, by rw [hU]; exact hP, va_K.moved hW.alike hK, hN.warm hW⟩⟩ rfl rfl hl.1 rfl (lv_room (Nat.le_of_ble_eq_true rfl)) d_NF_procedure_2 ⟨Nat.le_of_ble_eq_true rfl, Nat.le_of_ble_eq_true rfl⟩) hS (fun q _ h => h) (fun q h => h) (fun r1 s2 t H locs ht0 hvm hq hB hz1 hk1 hS => ?_)
  obtain ⟨hP, -, -⟩ := hB
  rw [ht0] at hP
  refine lv_if_eq (tgt := 36) hx hb d_NF_procedure_5 (by decide) (fun c3 => ?_) (fun c3 => ?_)
  · have hq := hq.1 c3
    obtain ⟨sa, hsa⟩ := hXS 64 "no such procedure, body, number of parameters or names" (by simp [xsL])
    exact vx_throwS hx hb hst (own := R_NF) (cls := "java/lang/IllegalArgumentException") (names := ["java/lang/RuntimeException", "java/lang/Exception"]) (text := "no such procedure, body, number of parameters or names") (A := aK ad 51) hown (by decide +kernel) (by decide +kernel) (ht _ wC_275) (ht _ wC_54) hsa (th_IllegalArgumentException (fun w h => hts w h) hN) tho_IllegalArgumentException hU0 hN0 hS (by rw [hml]; exact hl.1) d_NF_procedure_36 d_NF_procedure_39 d_NF_procedure_40 d_NF_procedure_42 d_NF_procedure_45 (fun x hx9 => (hex x hx9).elim) (show 2 + 3 < 6 by omega) (show _ ≤ 90 by simp only [List.map_cons, List.map_nil, List.sum_cons, List.sum_nil, Value.category, List.length_cons, List.length_nil]; omega) (Nat.le_of_ble_eq_true rfl) (Nat.le_of_ble_eq_true rfl) hlocks (fun t hv hz hk => ⟨s2, trivial, ⟨hq, hP.kept (fun k q h9 => hk _ (vx_lt hP h9))⟩, ⟨Nat.le_trans hS.1 hz, fun q h1 h2 => (hk q (Nat.lt_of_lt_of_le h1 hS.1)).trans (hS.2.1 q h1 h2)⟩⟩) hS.2.2 (Nat.le_of_ble_eq_true rfl) (Nat.le_of_ble_eq_true rfl)
  · have hq := hq.2 c3
    refine lv_aload_n hx hb d_NF_procedure_8 rfl (lv_at hl 0 rfl) ?_
    refine cw_get (C := R_NF) (T := F_NF) (N := 3) (v := .ref (ad 1)) hx hb hts (in_NF _) hown hK hP 0 (by decide) rfl rfl 0 (by decide) (ht _ wC_227) rfl d_NF_procedure_9 ?_
    refine lv_iload_n hx hb d_NF_procedure_12 rfl (lv_at hl 2 rfl) ?_
    refine va_calli (va_runV (As := [.int p2]) (rest := []) ⟨hx, hb, hml, hown, hts⟩ (c_PR_has (D := D) (cs := cs) hi hq) (cwV 1 hts (good_V wC_374 wC_268 wC_269 wC_45 wC_270) rfl rfl rfl (by decide +kernel) ⟨(show 1 + 1 ≤ 6 by omega), (show 8 + (2 + 11) + 21 ≤ 90 by omega)⟩) ⟨cP_blind, va_recv hK hP (ci := 2) (q0 := 1) rfl (wd_at (by decide) rfl), fun U hU hW => ⟨rfl, by rw [hU]; exact hP, va_K.moved hW.alike hK, hN.warm hW⟩⟩ rfl rfl hl.1 rfl (lv_room (Nat.le_of_ble_eq_true rfl)) d_NF_procedure_13 ⟨Nat.le_of_ble_eq_true rfl, Nat.le_of_ble_eq_true rfl⟩) hS (fun q _ h => h) (fun q h => h) (fun r4 s5 t H locs ht0 hvm hq hB hz1 hk1 hS => ?_)
    obtain ⟨hP, -, -⟩ := hB
    rw [ht0] at hP
    refine lv_if_eq (tgt := 36) hx hb d_NF_procedure_16 (by decide) (fun c6 => ?_) (fun c6 => ?_)
    · have hq := hq.1 c6
      obtain ⟨sa, hsa⟩ := hXS 64 "no such procedure, body, number of parameters or names" (by simp [xsL])
      exact vx_throwS hx hb hst (own := R_NF) (cls := "java/lang/IllegalArgumentException") (names := ["java/lang/RuntimeException", "java/lang/Exception"]) (text := "no such procedure, body, number of parameters or names") (A := aK ad 51) hown (by decide +kernel) (by decide +kernel) (ht _ wC_275) (ht _ wC_54) hsa (th_IllegalArgumentException (fun w h => hts w h) hN) tho_IllegalArgumentException hU0 hN0 hS (by rw [hml]; exact hl.1) d_NF_procedure_36 d_NF_procedure_39 d_NF_procedure_40 d_NF_procedure_42 d_NF_procedure_45 (fun x hx9 => (hex x hx9).elim) (show 2 + 3 < 6 by omega) (show _ ≤ 90 by simp only [List.map_cons, List.map_nil, List.sum_cons, List.sum_nil, Value.category, List.length_cons, List.length_nil]; omega) (Nat.le_of_ble_eq_true rfl) (Nat.le_of_ble_eq_true rfl) hlocks (fun t hv hz hk => ⟨s5, trivial, ⟨hq, hP.kept (fun k q h9 => hk _ (vx_lt hP h9))⟩, ⟨Nat.le_trans hS.1 hz, fun q h1 h2 => (hk q (Nat.lt_of_lt_of_le h1 hS.1)).trans (hS.2.1 q h1 h2)⟩⟩) hS.2.2 (Nat.le_of_ble_eq_true rfl) (Nat.le_of_ble_eq_true rfl)
    · have hq := hq.2 c6
      refine lv_iload_n hx hb d_NF_procedure_19 rfl (lv_at hl 3 rfl) ?_
      refine lv_iconst (v := 3) hx hb d_NF_procedure_20 (by decide) ?_
      refine va_calli (va_runS (As := [.int p3, .int 3]) (rest := []) ⟨hx, hb, hml, hown, hts⟩ (c_NF_isBelow (D := D) (cs := cs) hi hq) (va_cwS 2 hts (good_S wC_373 wC_259 wC_44 wC_260) rfl rfl rfl (by decide +kernel) ⟨(show 0 + 1 ≤ 6 by omega), (show 8 + (2 + 11) + 0 ≤ 90 by omega)⟩) ⟨cP_blind, fun U hU hW => ⟨rfl, by rw [hU]; exact hP, va_K.moved hW.alike hK, hN.warm hW⟩⟩ rfl rfl hl.1 rfl (lv_room (Nat.le_of_ble_eq_true rfl)) d_NF_procedure_21 ⟨Nat.le_of_ble_eq_true rfl, Nat.le_of_ble_eq_true rfl⟩) hS (fun q _ h => h) (fun q h => h) (fun r7 s8 t H locs ht0 hvm hq hB hz1 hk1 hS => ?_)
      obtain ⟨hP, -, -⟩ := hB
      rw [ht0] at hP
      refine lv_if_eq (tgt := 36) hx hb d_NF_procedure_24 (by decide) (fun c9 => ?_) (fun c9 => ?_)
      · have hq := hq.1 c9
        obtain ⟨sa, hsa⟩ := hXS 64 "no such procedure, body, number of parameters or names" (by simp [xsL])
        exact vx_throwS hx hb hst (own := R_NF) (cls := "java/lang/IllegalArgumentException") (names := ["java/lang/RuntimeException", "java/lang/Exception"]) (text := "no such procedure, body, number of parameters or names") (A := aK ad 51) hown (by decide +kernel) (by decide +kernel) (ht _ wC_275) (ht _ wC_54) hsa (th_IllegalArgumentException (fun w h => hts w h) hN) tho_IllegalArgumentException hU0 hN0 hS (by rw [hml]; exact hl.1) d_NF_procedure_36 d_NF_procedure_39 d_NF_procedure_40 d_NF_procedure_42 d_NF_procedure_45 (fun x hx9 => (hex x hx9).elim) (show 2 + 3 < 6 by omega) (show _ ≤ 90 by simp only [List.map_cons, List.map_nil, List.sum_cons, List.sum_nil, Value.category, List.length_cons, List.length_nil]; omega) (Nat.le_of_ble_eq_true rfl) (Nat.le_of_ble_eq_true rfl) hlocks (fun t hv hz hk => ⟨s8, trivial, ⟨hq, hP.kept (fun k q h9 => hk _ (vx_lt hP h9))⟩, ⟨Nat.le_trans hS.1 hz, fun q h1 h2 => (hk q (Nat.lt_of_lt_of_le h1 hS.1)).trans (hS.2.1 q h1 h2)⟩⟩) hS.2.2 (Nat.le_of_ble_eq_true rfl) (Nat.le_of_ble_eq_true rfl)
      · have hq := hq.2 c9
        refine lv_iload hx hb d_NF_procedure_27 (lv_at hl 4 rfl) ?_
        refine lv_iconst (v := 4) hx hb d_NF_procedure_29 (by decide) ?_
        refine va_calli (va_runS (As := [.int p4, .int 4]) (rest := []) ⟨hx, hb, hml, hown, hts⟩ (c_NF_isBelow (D := D) (cs := cs) hi hq) (va_cwS 2 hts (good_S wC_373 wC_259 wC_44 wC_260) rfl rfl rfl (by decide +kernel) ⟨(show 0 + 1 ≤ 6 by omega), (show 8 + (2 + 11) + 0 ≤ 90 by omega)⟩) ⟨cP_blind, fun U hU hW => ⟨rfl, by rw [hU]; exact hP, va_K.moved hW.alike hK, hN.warm hW⟩⟩ rfl rfl hl.1 rfl (lv_room (Nat.le_of_ble_eq_true rfl)) d_NF_procedure_30 ⟨Nat.le_of_ble_eq_true rfl, Nat.le_of_ble_eq_true rfl⟩) hS (fun q _ h => h) (fun q h => h) (fun r10 s11 t H locs ht0 hvm hq hB hz1 hk1 hS => ?_)
        obtain ⟨hP, -, -⟩ := hB
        rw [ht0] at hP
        refine lv_if_ne (tgt := 46) hx hb d_NF_procedure_33 (by decide) (fun c12 => ?_) (fun c12 => ?_)
        · have hq := hq.2 c12
          refine lv_aload_n hx hb d_NF_procedure_46 rfl (lv_at hl 0 rfl) ?_
          refine cw_get (C := R_NF) (T := F_NF) (N := 3) (v := .ref (ad 1)) hx hb hts (in_NF _) hown hK hP 0 (by decide) rfl rfl 0 (by decide) (ht _ wC_227) rfl d_NF_procedure_47 ?_
          refine lv_iload_n hx hb d_NF_procedure_50 rfl (lv_at hl 1 rfl) ?_
          refine lv_iload_n hx hb d_NF_procedure_51 rfl (lv_at hl 2 rfl) ?_
          refine lv_iload_n hx hb d_NF_procedure_52 rfl (lv_at hl 3 rfl) ?_
          refine lv_iload hx hb d_NF_procedure_53 (lv_at hl 4 rfl) ?_
          refine va_callv (va_runV (As := [.int p1, .int p2, .int p3, .int p4]) (rest := []) ⟨hx, hb, hml, hown, hts⟩ (c_PR_define (D := D) (cs := cs) hi hq) (cwV 4 hts (good_V wC_376 wC_377 wC_378 wC_45 wC_379) rfl rfl rfl (by decide +kernel) ⟨(show 0 + 1 ≤ 6 by omega), (show 8 + (5 + 11) + 0 ≤ 90 by omega)⟩) ⟨cP_blind, va_recv hK hP (ci := 2) (q0 := 1) rfl (wd_at (by decide) rfl), fun U hU hW => ⟨rfl, by rw [hU]; exact hP, va_K.moved hW.alike hK, hN.warm hW⟩⟩ rfl rfl hl.1 rfl (lv_room (Nat.le_of_ble_eq_true rfl)) d_NF_procedure_55 ⟨Nat.le_of_ble_eq_true rfl, Nat.le_of_ble_eq_true rfl⟩) hS (fun q _ h => h) (fun q h => h) (fun s14 t H locs ht0 hvm hq hB hz1 hk1 hS => ?_)
          obtain ⟨hP, -, -⟩ := hB
          rw [ht0] at hP
          refine W.widen (k := 1) (n := 6) (by decide) (by decide) ?_
          exact vx_ret (W.vret hx hb hr (fun t ht hW => ⟨⟨s14, rfl, hq, by rw [ht]; exact hP, va_K.moved hW.alike hK, hN.warm hW⟩, hS.F ht⟩) hS.2.2 d_NF_procedure_58)
        · have hq := hq.1 c12
          obtain ⟨sa, hsa⟩ := hXS 64 "no such procedure, body, number of parameters or names" (by simp [xsL])
          exact vx_throwS hx hb hst (own := R_NF) (cls := "java/lang/IllegalArgumentException") (names := ["java/lang/RuntimeException", "java/lang/Exception"]) (text := "no such procedure, body, number of parameters or names") (A := aK ad 51) hown (by decide +kernel) (by decide +kernel) (ht _ wC_275) (ht _ wC_54) hsa (th_IllegalArgumentException (fun w h => hts w h) hN) tho_IllegalArgumentException hU0 hN0 hS (by rw [hml]; exact hl.1) d_NF_procedure_36 d_NF_procedure_39 d_NF_procedure_40 d_NF_procedure_42 d_NF_procedure_45 (fun x hx9 => (hex x hx9).elim) (show 2 + 3 < 6 by omega) (show _ ≤ 90 by simp only [List.map_cons, List.map_nil, List.sum_cons, List.sum_nil, Value.category, List.length_cons, List.length_nil]; omega) (Nat.le_of_ble_eq_true rfl) (Nat.le_of_ble_eq_true rfl) hlocks (fun t hv hz hk => ⟨s11, trivial, ⟨hq, hP.kept (fun k q h9 => hk _ (vx_lt hP h9))⟩, ⟨Nat.le_trans hS.1 hz, fun q h1 h2 => (hk q (Nat.lt_of_lt_of_le h1 hS.1)).trans (hS.2.1 q h1 h2)⟩⟩) hS.2.2 (Nat.le_of_ble_eq_true rfl) (Nat.le_of_ble_eq_true rfl)
def wp_NF_bounds (p1 : Int32) (p2 : Int32) (p3 : Int32) (p4 : Int32) (σ : CS) (Q : Int32 → CS → Prop) (X : String → CS → Prop) : Prop := (wp_NF_areBounds p1 p2 σ (fun r1 s2 => ((r1 = 0 → X "java/lang/IllegalArgumentException" s2) ∧ (¬ r1 = 0 → (wp_NF_areBounds p3 p4 s2 (fun r4 s5 => ((r4 = 0 → X "java/lang/IllegalArgumentException" s5) ∧ (¬ r4 = 0 → (wp_ST_lay p1 p2 p3 p4 s5 (fun s8 => (wp_ST_size  s8 (fun r9 s10 => Q r9 s10))))))))))))
set_option maxHeartbeats 4000000 in
set_option maxRecDepth 100000 in
theorem c_NF_bounds {l : Launch} (hst : l.stackTraces = false) {D : va_G} {cs : CI} {ad : Nat → Nat} (hi : aI ad 51) {p1 : Int32} {p2 : Int32} {p3 : Int32} {p4 : Int32} {σ : CS} {Q : Int32 → CS → Prop} {X : String → CS → Prop} (hq : wp_NF_bounds p1 p2 p3 p4 σ Q X) : vx_Met l y_NF_bounds (.code y_NF_bounds b_NF_bounds 5 (some .int) :: wC) ({ frames := 6, cells := 1, slots := 6, locals := 90 }) (va_Pc [.ref (ad 0), .int p1, .int p2, .int p3, .int p4] (fun U => cP D cs ad σ U ∧ XW (aK ad 51) U)) (va_Qi Q (cP D cs ad) (aK ad 51)) (vx_X (fun _ : CS => True) (fun E u t => X E u ∧ va_P D clA (wd ad (cont ad cs u) 51) t.heap) (aK ad 51)) 1 6 (aK ad 51) := by
  refine vx_ofW (cc := b_NF_bounds) (maxL := 5) (ret := (some .int)) (by decide) rfl ?_
  intro p e s m args below meth c s₁ B hml hex hv
  obtain ⟨rfl, ⟨hP, hK, hN⟩, hXW⟩ := hv
  obtain ⟨⟨tA, tB, tC, hZA, hTA, hZB, hTB, hZC, hTC⟩, hXS, hU0, hN0⟩ := id hXW
  have hx := B.exec
  have hb := B.bytes
  have hr := B.returns
  have hts := atoms_spec (ws := .code y_NF_bounds b_NF_bounds 5 (some .int) :: wC) B.pre
  have ht : ∀ w ∈ wC, w.before _ s = true := fun w h => hts w (List.mem_cons_of_mem _ h)
  have hown : s.vm.findClass R_NF = some m.cls := findClass_of_methodNamed B.named
  have hlocks := B.notSynchronized
  have hS : va_S (aK ad 51) s.heap s.heap [] := va_S.rf
  have hl := lv_entry ([.ref (ad 0), .int p1, .int p2, .int p3, .int p4]) (n := 5) (Nat.le_of_ble_eq_true rfl)
  rw [lg_entry_eq]
  generalize (lg_sl ([.ref (ad 0), .int p1, .int p2, .int p3, .int p4]) ++ List.replicate (5 - (lg_sl ([.ref (ad 0), .int p1, .int p2, .int p3, .int p4])).length) Slot.unset).toArray = ls at hl ⊢
  have hl : lv_has ls 5 [(0, .ref (ad 0)), (1, .int p1), (2, .int p2), (3, .int p3), (4, .int p4)] := hl
  unfold wp_NF_bounds at hq
  refine lv_iload_n hx hb d_NF_bounds_0 rfl (lv_at hl 1 rfl) ?_
  refine lv_iload_n hx hb d_NF_bounds_1 rfl (lv_at hl 2 rfl) ?_
  refine va_calli (va_runS (As := [.int p1, .int p2]) (rest := []) ⟨hx, hb, hml, hown, hts⟩ (c_NF_areBounds (D := D) (cs := cs) hi hq) (va_cwS 2 hts (good_S wC_387 wC_388 wC_44 wC_389) rfl rfl rfl (by decide +kernel) ⟨(show 0 + 1 ≤ 6 by omega), (show 8 + (2 + 11) + 0 ≤ 90 by omega)⟩) ⟨cP_blind, fun U hU hW => ⟨rfl, by rw [hU]; exact hP, va_K.moved hW.alike hK, hN.warm hW⟩⟩ rfl rfl hl.1 rfl (lv_room (Nat.le_of_ble_eq_true rfl)) d_NF_bounds_2 ⟨Nat.le_of_ble_eq_true rfl, Nat.le_of_ble_eq_true rfl⟩) hS (fun q _ h => h) (fun q h => h) (fun r1 s2 t H locs ht0 hvm hq hB hz1 hk1 hS => ?_)
  obtain ⟨hP, -, -⟩ := hB
  rw [ht0] at hP
  refine lv_if_eq (tgt := 17) hx hb d_NF_bounds_5 (by decide) (fun c3 => ?_) (fun c3 => ?_)
  · have hq := hq.1 c3
    obtain ⟨sa, hsa⟩ := hXS 73 "no bounds of a table" (by simp [xsL])
    exact vx_throwS hx hb hst (own := R_NF) (cls := "java/lang/IllegalArgumentException") (names := ["java/lang/RuntimeException", "java/lang/Exception"]) (text := "no bounds of a table") (A := aK ad 51) hown (by decide +kernel) (by decide +kernel) (ht _ wC_275) (ht _ wC_54) hsa (th_IllegalArgumentException (fun w h => hts w h) hN) tho_IllegalArgumentException hU0 hN0 hS (by rw [hml]; exact hl.1) d_NF_bounds_17 d_NF_bounds_20 d_NF_bounds_21 d_NF_bounds_23 d_NF_bounds_26 (fun x hx9 => (hex x hx9).elim) (show 2 + 3 < 6 by omega) (show _ ≤ 90 by simp only [List.map_cons, List.map_nil, List.sum_cons, List.sum_nil, Value.category, List.length_cons, List.length_nil]; omega) (Nat.le_of_ble_eq_true rfl) (Nat.le_of_ble_eq_true rfl) hlocks (fun t hv hz hk => ⟨s2, trivial, ⟨hq, hP.kept (fun k q h9 => hk _ (vx_lt hP h9))⟩, ⟨Nat.le_trans hS.1 hz, fun q h1 h2 => (hk q (Nat.lt_of_lt_of_le h1 hS.1)).trans (hS.2.1 q h1 h2)⟩⟩) hS.2.2 (Nat.le_of_ble_eq_true rfl) (Nat.le_of_ble_eq_true rfl)
  · have hq := hq.2 c3
    refine lv_iload_n hx hb d_NF_bounds_8 rfl (lv_at hl 3 rfl) ?_
    refine lv_iload hx hb d_NF_bounds_9 (lv_at hl 4 rfl) ?_
    refine va_calli (va_runS (As := [.int p3, .int p4]) (rest := []) ⟨hx, hb, hml, hown, hts⟩ (c_NF_areBounds (D := D) (cs := cs) hi hq) (va_cwS 2 hts (good_S wC_387 wC_388 wC_44 wC_389) rfl rfl rfl (by decide +kernel) ⟨(show 0 + 1 ≤ 6 by omega), (show 8 + (2 + 11) + 0 ≤ 90 by omega)⟩) ⟨cP_blind, fun U hU hW => ⟨rfl, by rw [hU]; exact hP, va_K.moved hW.alike hK, hN.warm hW⟩⟩ rfl rfl hl.1 rfl (lv_room (Nat.le_of_ble_eq_true rfl)) d_NF_bounds_11 ⟨Nat.le_of_ble_eq_true rfl, Nat.le_of_ble_eq_true rfl⟩) hS (fun q _ h => h) (fun q h => h) (fun r4 s5 t H locs ht0 hvm hq hB hz1 hk1 hS => ?_)
    obtain ⟨hP, -, -⟩ := hB
    rw [ht0] at hP
    refine lv_if_ne (tgt := 27) hx hb d_NF_bounds_14 (by decide) (fun c6 => ?_) (fun c6 => ?_)
    · have hq := hq.2 c6
      refine lv_aload_n hx hb d_NF_bounds_27 rfl (lv_at hl 0 rfl) ?_
      refine cw_get (C := R_NF) (T := F_NF) (N := 3) (v := .ref (ad 9)) hx hb hts (in_NF _) hown hK hP 0 (by decide) rfl rfl 1 (by decide) (ht _ wC_228) rfl d_NF_bounds_28 ?_
      refine lv_iload_n hx hb d_NF_bounds_31 rfl (lv_at hl 1 rfl) ?_
      refine lv_iload_n hx hb d_NF_bounds_32 rfl (lv_at hl 2 rfl) ?_
      refine lv_iload_n hx hb d_NF_bounds_33 rfl (lv_at hl 3 rfl) ?_
      refine lv_iload hx hb d_NF_bounds_34 (lv_at hl 4 rfl) ?_
      refine va_callv (va_runV (As := [.int p1, .int p2, .int p3, .int p4]) (rest := []) ⟨hx, hb, hml, hown, hts⟩ (c_ST_lay (D := D) (cs := cs) hi hq) (cwV 4 hts (good_V wC_391 wC_392 wC_393 wC_47 wC_394) rfl rfl rfl (by decide +kernel) ⟨(show 1 + 1 ≤ 6 by omega), (show 8 + (5 + 11) + 24 ≤ 90 by omega)⟩) ⟨cP_blind, va_recv hK hP (ci := 3) (q0 := 9) rfl (wd_at (by decide) rfl), fun U hU hW => ⟨rfl, by rw [hU]; exact hP, va_K.moved hW.alike hK, hN.warm hW⟩⟩ rfl rfl hl.1 rfl (lv_room (Nat.le_of_ble_eq_true rfl)) d_NF_bounds_36 ⟨Nat.le_of_ble_eq_true rfl, Nat.le_of_ble_eq_true rfl⟩) hS (fun q _ h => h) (fun q h => h) (fun s8 t H locs ht0 hvm hq hB hz1 hk1 hS => ?_)
      obtain ⟨hP, -, -⟩ := hB
      rw [ht0] at hP
      refine lv_aload_n hx hb d_NF_bounds_39 rfl (lv_at hl 0 rfl) ?_
      refine cw_get (C := R_NF) (T := F_NF) (N := 3) (v := .ref (ad 9)) hx hb hts (in_NF _) hown hK hP 0 (by decide) rfl rfl 1 (by decide) (ht _ wC_228) rfl d_NF_bounds_40 ?_
      refine va_calli (va_runV (As := []) (rest := []) ⟨hx, hb, hml, hown, hts⟩ (c_ST_size (D := D) (cs := cs) hi hq) (cwV 0 hts (good_V wC_398 wC_399 wC_400 wC_47 wC_401) rfl rfl rfl (by decide +kernel) ⟨(show 0 + 1 ≤ 6 by omega), (show 8 + (1 + 11) + 0 ≤ 90 by omega)⟩) ⟨cP_blind, va_recv hK hP (ci := 3) (q0 := 9) rfl (wd_at (by decide) rfl), fun U hU hW => ⟨rfl, by rw [hU]; exact hP, va_K.moved hW.alike hK, hN.warm hW⟩⟩ rfl rfl hl.1 rfl (lv_room (Nat.le_of_ble_eq_true rfl)) d_NF_bounds_43 ⟨Nat.le_of_ble_eq_true rfl, Nat.le_of_ble_eq_true rfl⟩) hS (fun q _ h => h) (fun q h => h) (fun r9 s10 t H locs ht0 hvm hq hB hz1 hk1 hS => ?_)
      obtain ⟨hP, -, -⟩ := hB
      rw [ht0] at hP
      refine W.widen (k := 1) (n := 6) (by decide) (by decide) ?_
      exact vx_ret (W.iret hx hb hr (fun t ht hW => ⟨⟨r9, s10, rfl, hq, by rw [ht]; exact hP, va_K.moved hW.alike hK, hN.warm hW⟩, hS.F ht⟩) hS.2.2 d_NF_bounds_46)
    · have hq := hq.1 c6
      obtain ⟨sa, hsa⟩ := hXS 73 "no bounds of a table" (by simp [xsL])
      exact vx_throwS hx hb hst (own := R_NF) (cls := "java/lang/IllegalArgumentException") (names := ["java/lang/RuntimeException", "java/lang/Exception"]) (text := "no bounds of a table") (A := aK ad 51) hown (by decide +kernel) (by decide +kernel) (ht _ wC_275) (ht _ wC_54) hsa (th_IllegalArgumentException (fun w h => hts w h) hN) tho_IllegalArgumentException hU0 hN0 hS (by rw [hml]; exact hl.1) d_NF_bounds_17 d_NF_bounds_20 d_NF_bounds_21 d_NF_bounds_23 d_NF_bounds_26 (fun x hx9 => (hex x hx9).elim) (show 2 + 3 < 6 by omega) (show _ ≤ 90 by simp only [List.map_cons, List.map_nil, List.sum_cons, List.sum_nil, Value.category, List.length_cons, List.length_nil]; omega) (Nat.le_of_ble_eq_true rfl) (Nat.le_of_ble_eq_true rfl) hlocks (fun t hv hz hk => ⟨s5, trivial, ⟨hq, hP.kept (fun k q h9 => hk _ (vx_lt hP h9))⟩, ⟨Nat.le_trans hS.1 hz, fun q h1 h2 => (hk q (Nat.lt_of_lt_of_le h1 hS.1)).trans (hS.2.1 q h1 h2)⟩⟩) hS.2.2 (Nat.le_of_ble_eq_true rfl) (Nat.le_of_ble_eq_true rfl)
def wp_NF_put (p1 : Int32) (p2 : UInt64) (σ : CS) (Q : UInt64 → CS → Prop) (X : String → CS → Prop) : Prop := (wp_NF_isBelow p1 8 σ (fun r1 s2 => ((r1 = 0 → X "java/lang/IllegalArgumentException" s2) ∧ (¬ r1 = 0 → (wp_NF_isWithinSize p2 s2 (fun r4 s5 => ((r4 = 0 → X "java/lang/IllegalArgumentException" s5) ∧ (¬ r4 = 0 → (vp_in p1 8 ∧ (wp_ST_assign p1 p2 s5 (fun r7 s8 => Q (gD s5 0 p1.toNatClampNeg) s8)))))))))))
set_option maxHeartbeats 4000000 in
set_option maxRecDepth 100000 in
theorem c_NF_put {l : Launch} (hst : l.stackTraces = false) {D : va_G} {cs : CI} {ad : Nat → Nat} (hi : aI ad 51) {p1 : Int32} {p2 : UInt64} {σ : CS} {Q : UInt64 → CS → Prop} {X : String → CS → Prop} (hq : wp_NF_put p1 p2 σ Q X) : vx_Met l y_NF_put (.code y_NF_put b_NF_put 6 (some .double) :: wC) ({ frames := 6, cells := 1, slots := 6, locals := 90 }) (va_Pc [.ref (ad 0), .int p1, .double p2] (fun U => cP D cs ad σ U ∧ XW (aK ad 51) U)) (va_Qd Q (cP D cs ad) (aK ad 51)) (vx_X (fun _ : CS => True) (fun E u t => X E u ∧ va_P D clA (wd ad (cont ad cs u) 51) t.heap) (aK ad 51)) 1 6 (aK ad 51) := by
  refine vx_ofW (cc := b_NF_put) (maxL := 6) (ret := (some .double)) (by decide) rfl ?_
  intro p e s m args below meth c s₁ B hml hex hv
  obtain ⟨rfl, ⟨hP, hK, hN⟩, hXW⟩ := hv
  obtain ⟨⟨tA, tB, tC, hZA, hTA, hZB, hTB, hZC, hTC⟩, hXS, hU0, hN0⟩ := id hXW
  have hx := B.exec
  have hb := B.bytes
  have hr := B.returns
  have hts := atoms_spec (ws := .code y_NF_put b_NF_put 6 (some .double) :: wC) B.pre
  have ht : ∀ w ∈ wC, w.before _ s = true := fun w h => hts w (List.mem_cons_of_mem _ h)
  have hown : s.vm.findClass R_NF = some m.cls := findClass_of_methodNamed B.named
  have hlocks := B.notSynchronized
  have hS : va_S (aK ad 51) s.heap s.heap [] := va_S.rf
  have hl := lv_entry ([.ref (ad 0), .int p1, .double p2]) (n := 6) (Nat.le_of_ble_eq_true rfl)
  rw [lg_entry_eq]
  generalize (lg_sl ([.ref (ad 0), .int p1, .double p2]) ++ List.replicate (6 - (lg_sl ([.ref (ad 0), .int p1, .double p2])).length) Slot.unset).toArray = ls at hl ⊢
  have hl : lv_has ls 6 [(0, .ref (ad 0)), (1, .int p1), (2, .double p2)] := hl
  unfold wp_NF_put at hq
  refine lv_iload_n hx hb d_NF_put_0 rfl (lv_at hl 1 rfl) ?_
  refine lv_bipush (v := 8) hx hb d_NF_put_1 (by decide) ?_
  refine va_calli (va_runS (As := [.int p1, .int 8]) (rest := []) ⟨hx, hb, hml, hown, hts⟩ (c_NF_isBelow (D := D) (cs := cs) hi hq) (va_cwS 2 hts (good_S wC_373 wC_259 wC_44 wC_260) rfl rfl rfl (by decide +kernel) ⟨(show 0 + 1 ≤ 6 by omega), (show 8 + (2 + 11) + 0 ≤ 90 by omega)⟩) ⟨cP_blind, fun U hU hW => ⟨rfl, by rw [hU]; exact hP, va_K.moved hW.alike hK, hN.warm hW⟩⟩ rfl rfl hl.1 rfl (lv_room (Nat.le_of_ble_eq_true rfl)) d_NF_put_3 ⟨Nat.le_of_ble_eq_true rfl, Nat.le_of_ble_eq_true rfl⟩) hS (fun q _ h => h) (fun q h => h) (fun r1 s2 t H locs ht0 hvm hq hB hz1 hk1 hS => ?_)
  obtain ⟨hP, -, -⟩ := hB
  rw [ht0] at hP
  refine lv_if_eq (tgt := 16) hx hb d_NF_put_6 (by decide) (fun c3 => ?_) (fun c3 => ?_)
  · have hq := hq.1 c3
    obtain ⟨sa, hsa⟩ := hXS 85 "no such variable, or no value for one" (by simp [xsL])
    exact vx_throwS hx hb hst (own := R_NF) (cls := "java/lang/IllegalArgumentException") (names := ["java/lang/RuntimeException", "java/lang/Exception"]) (text := "no such variable, or no value for one") (A := aK ad 51) hown (by decide +kernel) (by decide +kernel) (ht _ wC_275) (ht _ wC_54) hsa (th_IllegalArgumentException (fun w h => hts w h) hN) tho_IllegalArgumentException hU0 hN0 hS (by rw [hml]; exact hl.1) d_NF_put_16 d_NF_put_19 d_NF_put_20 d_NF_put_22 d_NF_put_25 (fun x hx9 => (hex x hx9).elim) (show 2 + 3 < 6 by omega) (show _ ≤ 90 by simp only [List.map_cons, List.map_nil, List.sum_cons, List.sum_nil, Value.category, List.length_cons, List.length_nil]; omega) (Nat.le_of_ble_eq_true rfl) (Nat.le_of_ble_eq_true rfl) hlocks (fun t hv hz hk => ⟨s2, trivial, ⟨hq, hP.kept (fun k q h9 => hk _ (vx_lt hP h9))⟩, ⟨Nat.le_trans hS.1 hz, fun q h1 h2 => (hk q (Nat.lt_of_lt_of_le h1 hS.1)).trans (hS.2.1 q h1 h2)⟩⟩) hS.2.2 (Nat.le_of_ble_eq_true rfl) (Nat.le_of_ble_eq_true rfl)
  · have hq := hq.2 c3
    refine lv_dload_n hx hb d_NF_put_9 rfl (lv_at hl 2 rfl) ?_
    refine va_calli (va_runS (As := [.double p2]) (rest := []) ⟨hx, hb, hml, hown, hts⟩ (c_NF_isWithinSize (D := D) (cs := cs) hi hq) (va_cwS 1 hts (good_S wC_409 wC_410 wC_44 wC_411) rfl rfl rfl (by decide +kernel) ⟨(show 0 + 1 ≤ 6 by omega), (show 8 + (2 + 11) + 0 ≤ 90 by omega)⟩) ⟨cP_blind, fun U hU hW => ⟨rfl, by rw [hU]; exact hP, va_K.moved hW.alike hK, hN.warm hW⟩⟩ rfl rfl hl.1 rfl (lv_room (Nat.le_of_ble_eq_true rfl)) d_NF_put_10 ⟨Nat.le_of_ble_eq_true rfl, Nat.le_of_ble_eq_true rfl⟩) hS (fun q _ h => h) (fun q h => h) (fun r4 s5 t H locs ht0 hvm hq hB hz1 hk1 hS => ?_)
    obtain ⟨hP, -, -⟩ := hB
    rw [ht0] at hP
    refine lv_if_ne (tgt := 26) hx hb d_NF_put_13 (by decide) (fun c6 => ?_) (fun c6 => ?_)
    · have hq := hq.2 c6
      refine lv_aload_n hx hb d_NF_put_26 rfl (lv_at hl 0 rfl) ?_
      refine cw_get (C := R_NF) (T := F_NF) (N := 3) (v := .ref (ad 9)) hx hb hts (in_NF _) hown hK hP 0 (by decide) rfl rfl 1 (by decide) (ht _ wC_228) rfl d_NF_put_27 ?_
      refine cw_get (C := R_ST) (T := F_ST) (N := 6) (v := .ref (ad 10)) hx hb hts (in_ST _) hown hK hP 9 (by decide) rfl rfl 0 (by decide) (ht _ wC_123) rfl d_NF_put_30 ?_
      refine lv_iload_n hx hb d_NF_put_33 rfl (lv_at hl 1 rfl) ?_
      refine cw_dald hx hb hK hP 10 (by decide) rfl 1 rfl hq.1 d_NF_put_34 ?_
      have hq := hq.2
      refine lv_dstore (lv' := [(4, .double (gD s5 0 p1.toNatClampNeg)), (0, .ref (ad 0)), (1, .int p1), (2, .double p2)]) hx hb d_NF_put_35 hl (by decide) rfl (fun ls hl => ?_)
      refine lv_aload_n hx hb d_NF_put_37 rfl (lv_at hl 1 rfl) ?_
      refine cw_get (C := R_NF) (T := F_NF) (N := 3) (v := .ref (ad 9)) hx hb hts (in_NF _) hown hK hP 0 (by decide) rfl rfl 1 (by decide) (ht _ wC_228) rfl d_NF_put_38 ?_
      refine lv_iload_n hx hb d_NF_put_41 rfl (lv_at hl 2 rfl) ?_
      refine lv_dload_n hx hb d_NF_put_42 rfl (lv_at hl 3 rfl) ?_
      refine va_calld (va_runV (As := [.int p1, .double p2]) (rest := []) ⟨hx, hb, hml, hown, hts⟩ (c_ST_assign (D := D) (cs := cs) hi hq) (cwV 2 hts (good_V wC_415 wC_416 wC_417 wC_47 wC_418) rfl rfl rfl (by decide +kernel) ⟨(show 1 + 1 ≤ 6 by omega), (show 8 + (4 + 11) + 25 ≤ 90 by omega)⟩) ⟨cP_blind, va_recv hK hP (ci := 3) (q0 := 9) rfl (wd_at (by decide) rfl), fun U hU hW => ⟨rfl, by rw [hU]; exact hP, va_K.moved hW.alike hK, hN.warm hW⟩⟩ rfl rfl hl.1 rfl (lv_room (Nat.le_of_ble_eq_true rfl)) d_NF_put_43 ⟨Nat.le_of_ble_eq_true rfl, Nat.le_of_ble_eq_true rfl⟩) hS (fun q _ h => h) (fun q h => h) (fun r7 s8 t H locs ht0 hvm hq hB hz1 hk1 hS => ?_)
      obtain ⟨hP, -, -⟩ := hB
      rw [ht0] at hP
      refine lv_pop2_2 hx hb d_NF_put_46 rfl ?_
      refine lv_dload hx hb d_NF_put_47 (lv_at hl 0 rfl) ?_
      refine W.widen (k := 1) (n := 6) (by decide) (by decide) ?_
      exact vx_ret (W.dret hx hb hr (fun t ht hW => ⟨⟨(gD s5 0 p1.toNatClampNeg), s8, rfl, hq, by rw [ht]; exact hP, va_K.moved hW.alike hK, hN.warm hW⟩, hS.F ht⟩) hS.2.2 d_NF_put_49)
    · have hq := hq.1 c6
      obtain ⟨sa, hsa⟩ := hXS 85 "no such variable, or no value for one" (by simp [xsL])
      exact vx_throwS hx hb hst (own := R_NF) (cls := "java/lang/IllegalArgumentException") (names := ["java/lang/RuntimeException", "java/lang/Exception"]) (text := "no such variable, or no value for one") (A := aK ad 51) hown (by decide +kernel) (by decide +kernel) (ht _ wC_275) (ht _ wC_54) hsa (th_IllegalArgumentException (fun w h => hts w h) hN) tho_IllegalArgumentException hU0 hN0 hS (by rw [hml]; exact hl.1) d_NF_put_16 d_NF_put_19 d_NF_put_20 d_NF_put_22 d_NF_put_25 (fun x hx9 => (hex x hx9).elim) (show 2 + 3 < 6 by omega) (show _ ≤ 90 by simp only [List.map_cons, List.map_nil, List.sum_cons, List.sum_nil, Value.category, List.length_cons, List.length_nil]; omega) (Nat.le_of_ble_eq_true rfl) (Nat.le_of_ble_eq_true rfl) hlocks (fun t hv hz hk => ⟨s5, trivial, ⟨hq, hP.kept (fun k q h9 => hk _ (vx_lt hP h9))⟩, ⟨Nat.le_trans hS.1 hz, fun q h1 h2 => (hk q (Nat.lt_of_lt_of_le h1 hS.1)).trans (hS.2.1 q h1 h2)⟩⟩) hS.2.2 (Nat.le_of_ble_eq_true rfl) (Nat.le_of_ble_eq_true rfl)
def wp_NF_work (p1 : Int32) (σ : CS) (Q : UInt64 → CS → Prop) (X : String → CS → Prop) : Prop := (wp_PR_has p1 σ (fun r1 s2 => ((r1 = 0 → X "java/lang/IllegalArgumentException" s2) ∧ (¬ r1 = 0 → (wp_WK_start p1 s2 (fun r4 s5 => (wp_NF_throwFault (gI s5 1) s5 (fun s6 => Q r4 s6) X)))))))
set_option maxHeartbeats 4000000 in
set_option maxRecDepth 100000 in
theorem c_NF_work {l : Launch} (hst : l.stackTraces = false) {D : va_G} {cs : CI} {ad : Nat → Nat} (hi : aI ad 51) {p1 : Int32} {σ : CS} {Q : UInt64 → CS → Prop} {X : String → CS → Prop} (hq : wp_NF_work p1 σ Q X) : vx_Met l y_NF_work (.code y_NF_work b_NF_work 4 (some .double) :: wC) ({ frames := 1627, cells := 1, slots := 6, locals := 46639 }) (va_Pc [.ref (ad 0), .int p1] (fun U => cP D cs ad σ U ∧ XW (aK ad 51) U)) (va_Qd Q (cP D cs ad) (aK ad 51)) (vx_X (fun _ : CS => True) (fun E u t => X E u ∧ va_P D clA (wd ad (cont ad cs u) 51) t.heap) (aK ad 51)) 1 6 (aK ad 51) := by
  refine vx_ofW (cc := b_NF_work) (maxL := 4) (ret := (some .double)) (by decide) rfl ?_
  intro p e s m args below meth c s₁ B hml hex hv
  obtain ⟨rfl, ⟨hP, hK, hN⟩, hXW⟩ := hv
  obtain ⟨⟨tA, tB, tC, hZA, hTA, hZB, hTB, hZC, hTC⟩, hXS, hU0, hN0⟩ := id hXW
  have hx := B.exec
  have hb := B.bytes
  have hr := B.returns
  have hts := atoms_spec (ws := .code y_NF_work b_NF_work 4 (some .double) :: wC) B.pre
  have ht : ∀ w ∈ wC, w.before _ s = true := fun w h => hts w (List.mem_cons_of_mem _ h)
  have hown : s.vm.findClass R_NF = some m.cls := findClass_of_methodNamed B.named
  have hlocks := B.notSynchronized
  have hS : va_S (aK ad 51) s.heap s.heap [] := va_S.rf
  have hl := lv_entry ([.ref (ad 0), .int p1]) (n := 4) (Nat.le_of_ble_eq_true rfl)
  rw [lg_entry_eq]
  generalize (lg_sl ([.ref (ad 0), .int p1]) ++ List.replicate (4 - (lg_sl ([.ref (ad 0), .int p1])).length) Slot.unset).toArray = ls at hl ⊢
  have hl : lv_has ls 4 [(0, .ref (ad 0)), (1, .int p1)] := hl
  unfold wp_NF_work at hq
  refine lv_aload_n hx hb d_NF_work_0 rfl (lv_at hl 0 rfl) ?_
  refine cw_get (C := R_NF) (T := F_NF) (N := 3) (v := .ref (ad 1)) hx hb hts (in_NF _) hown hK hP 0 (by decide) rfl rfl 0 (by decide) (ht _ wC_227) rfl d_NF_work_1 ?_
  refine lv_iload_n hx hb d_NF_work_4 rfl (lv_at hl 1 rfl) ?_
  refine va_calli (va_runV (As := [.int p1]) (rest := []) ⟨hx, hb, hml, hown, hts⟩ (c_PR_has (D := D) (cs := cs) hi hq) (cwV 1 hts (good_V wC_374 wC_268 wC_269 wC_45 wC_270) rfl rfl rfl (by decide +kernel) ⟨(show 1 + 1 ≤ 1627 by omega), (show 8 + (2 + 11) + 21 ≤ 46639 by omega)⟩) ⟨cP_blind, va_recv hK hP (ci := 2) (q0 := 1) rfl (wd_at (by decide) rfl), fun U hU hW => ⟨rfl, by rw [hU]; exact hP, va_K.moved hW.alike hK, hN.warm hW⟩⟩ rfl rfl hl.1 rfl (lv_room (Nat.le_of_ble_eq_true rfl)) d_NF_work_5 ⟨Nat.le_of_ble_eq_true rfl, Nat.le_of_ble_eq_true rfl⟩) hS (fun q _ h => h) (fun q h => h) (fun r1 s2 t H locs ht0 hvm hq hB hz1 hk1 hS => ?_)
  obtain ⟨hP, -, -⟩ := hB
  rw [ht0] at hP
  refine lv_if_ne (tgt := 21) hx hb d_NF_work_8 (by decide) (fun c3 => ?_) (fun c3 => ?_)
  · have hq := hq.2 c3
    refine lv_aload_n hx hb d_NF_work_21 rfl (lv_at hl 0 rfl) ?_
    refine cw_get (C := R_NF) (T := F_NF) (N := 3) (v := .ref (ad 12)) hx hb hts (in_NF _) hown hK hP 0 (by decide) rfl rfl 2 (by decide) (ht _ wC_229) rfl d_NF_work_22 ?_
    refine lv_iload_n hx hb d_NF_work_25 rfl (lv_at hl 1 rfl) ?_
    refine va_calld (va_runV (As := [.int p1]) (rest := []) ⟨hx, hb, hml, hown, hts⟩ (c_WK_start (D := D) (cs := cs) hi hq) (cwV 1 hts (good_V wC_435 wC_436 wC_437 wC_48 wC_438) rfl rfl rfl (by decide +kernel) ⟨(show 1626 + 1 ≤ 1627 by omega), (show 8 + (2 + 11) + 46618 ≤ 46639 by omega)⟩) ⟨cP_blind, va_recv hK hP (ci := 4) (q0 := 12) rfl (wd_at (by decide) rfl), fun U hU hW => ⟨rfl, by rw [hU]; exact hP, va_K.moved hW.alike hK, hN.warm hW⟩⟩ rfl rfl hl.1 rfl (lv_room (Nat.le_of_ble_eq_true rfl)) d_NF_work_26 ⟨Nat.le_of_ble_eq_true rfl, Nat.le_of_ble_eq_true rfl⟩) hS (fun q _ h => h) (fun q h => h) (fun r4 s5 t H locs ht0 hvm hq hB hz1 hk1 hS => ?_)
    obtain ⟨hP, -, -⟩ := hB
    rw [ht0] at hP
    refine lv_dstore_n (lv' := [(2, .double r4), (0, .ref (ad 0)), (1, .int p1)]) hx hb d_NF_work_29 rfl hl (by decide) rfl (fun ls hl => ?_)
    refine lv_aload_n hx hb d_NF_work_30 rfl (lv_at hl 1 rfl) ?_
    refine cw_get (C := R_NF) (T := F_NF) (N := 3) (v := .ref (ad 12)) hx hb hts (in_NF _) hown hK hP 0 (by decide) rfl rfl 2 (by decide) (ht _ wC_229) rfl d_NF_work_31 ?_
    refine cw_get (C := R_WK) (T := F_WK) (N := 13) (v := .int (gI s5 1)) hx hb hts (in_WK _) hown hK hP 12 (by decide) rfl rfl 1 (by decide) (ht _ wC_185) rfl d_NF_work_34 ?_
    refine vx_callv (vx_runS (As := [.int (gI s5 1)]) (rest := []) ⟨hx, hb, hml, hown, hts⟩ (c_NF_throwFault hst (D := D) (cs := cs) hi hq) (va_cwS 1 hts (good_S wC_571 wC_572 wC_44 wC_573) rfl rfl rfl (by decide +kernel) ⟨(show 6 + 1 ≤ 1627 by omega), (show 8 + (1 + 11) + 90 ≤ 46639 by omega)⟩) ⟨pP_blind, fun U hU hW => ⟨rfl, ⟨by rw [hU]; exact hP, va_K.moved hW.alike hK, hN.warm hW⟩, hXW.to hS hU hW⟩⟩ rfl rfl hl.1 rfl (lv_room (Nat.le_of_ble_eq_true rfl)) d_NF_work_37 ⟨Nat.le_of_ble_eq_true rfl, Nat.le_of_ble_eq_true rfl⟩) hS (fun q _ h => h) (fun q h => h) (fun q _ h => h) (fun E ce q9 u t H locs ht0 hvm _ hB hz1 hk1 hS h1 h2 h3 => ?_) (fun s6 t H locs ht0 hvm hq hB hz1 hk1 hS => ?_)
    · obtain ⟨hq, hP⟩ := hB
      rw [ht0] at hP
      exact vx_out (fun x hx9 => (hex x hx9).elim) hlocks h1 h2 h3 (fun t ht hv => ⟨u, trivial, ⟨hq, by rw [ht]; exact hP⟩, hS.F ht⟩) hS.2.2 (Nat.le_of_ble_eq_true rfl) (Nat.le_of_ble_eq_true rfl)
    obtain ⟨hP, -, -⟩ := hB
    rw [ht0] at hP
    refine lv_dload_n hx hb d_NF_work_40 rfl (lv_at hl 0 rfl) ?_
    exact vx_ret (W.dret hx hb hr (fun t ht hW => ⟨⟨r4, s6, rfl, hq, by rw [ht]; exact hP, va_K.moved hW.alike hK, hN.warm hW⟩, hS.F ht⟩) hS.2.2 d_NF_work_41)
  · have hq := hq.1 c3
    obtain ⟨sa, hsa⟩ := hXS 95 "no such node" (by simp [xsL])
    exact vx_throwS hx hb hst (own := R_NF) (cls := "java/lang/IllegalArgumentException") (names := ["java/lang/RuntimeException", "java/lang/Exception"]) (text := "no such node") (A := aK ad 51) hown (by decide +kernel) (by decide +kernel) (ht _ wC_275) (ht _ wC_54) hsa (th_IllegalArgumentException (fun w h => hts w h) hN) tho_IllegalArgumentException hU0 hN0 hS (by rw [hml]; exact hl.1) d_NF_work_11 d_NF_work_14 d_NF_work_15 d_NF_work_17 d_NF_work_20 (fun x hx9 => (hex x hx9).elim) (show 2 + 3 < 1627 by omega) (show _ ≤ 46639 by simp only [List.map_cons, List.map_nil, List.sum_cons, List.sum_nil, Value.category, List.length_cons, List.length_nil]; omega) (Nat.le_of_ble_eq_true rfl) (Nat.le_of_ble_eq_true rfl) hlocks (fun t hv hz hk => ⟨s2, trivial, ⟨hq, hP.kept (fun k q h9 => hk _ (vx_lt hP h9))⟩, ⟨Nat.le_trans hS.1 hz, fun q h1 h2 => (hk q (Nat.lt_of_lt_of_le h1 hS.1)).trans (hS.2.1 q h1 h2)⟩⟩) hS.2.2 (Nat.le_of_ble_eq_true rfl) (Nat.le_of_ble_eq_true rfl)
def wp_NF_variable (p1 : Int32) (σ : CS) (Q : UInt64 → CS → Prop) (X : String → CS → Prop) : Prop := (wp_NF_isBelow p1 8 σ (fun r1 s2 => ((r1 = 0 → X "java/lang/IllegalArgumentException" s2) ∧ (¬ r1 = 0 → (vp_in p1 8 ∧ Q (gD s2 0 p1.toNatClampNeg) s2)))))
set_option maxHeartbeats 4000000 in
set_option maxRecDepth 100000 in
theorem c_NF_variable {l : Launch} (hst : l.stackTraces = false) {D : va_G} {cs : CI} {ad : Nat → Nat} (hi : aI ad 51) {p1 : Int32} {σ : CS} {Q : UInt64 → CS → Prop} {X : String → CS → Prop} (hq : wp_NF_variable p1 σ Q X) : vx_Met l y_NF_variable (.code y_NF_variable b_NF_variable 2 (some .double) :: wC) ({ frames := 6, cells := 1, slots := 6, locals := 90 }) (va_Pc [.ref (ad 0), .int p1] (fun U => cP D cs ad σ U ∧ XW (aK ad 51) U)) (va_Qd Q (cP D cs ad) (aK ad 51)) (vx_X (fun _ : CS => True) (fun E u t => X E u ∧ va_P D clA (wd ad (cont ad cs u) 51) t.heap) (aK ad 51)) 1 6 (aK ad 51) := by
  refine vx_ofW (cc := b_NF_variable) (maxL := 2) (ret := (some .double)) (by decide) rfl ?_
  intro p e s m args below meth c s₁ B hml hex hv
  obtain ⟨rfl, ⟨hP, hK, hN⟩, hXW⟩ := hv
  obtain ⟨⟨tA, tB, tC, hZA, hTA, hZB, hTB, hZC, hTC⟩, hXS, hU0, hN0⟩ := id hXW
  have hx := B.exec
  have hb := B.bytes
  have hr := B.returns
  have hts := atoms_spec (ws := .code y_NF_variable b_NF_variable 2 (some .double) :: wC) B.pre
  have ht : ∀ w ∈ wC, w.before _ s = true := fun w h => hts w (List.mem_cons_of_mem _ h)
  have hown : s.vm.findClass R_NF = some m.cls := findClass_of_methodNamed B.named
  have hlocks := B.notSynchronized
  have hS : va_S (aK ad 51) s.heap s.heap [] := va_S.rf
  have hl := lv_entry ([.ref (ad 0), .int p1]) (n := 2) (Nat.le_of_ble_eq_true rfl)
  rw [lg_entry_eq]
  generalize (lg_sl ([.ref (ad 0), .int p1]) ++ List.replicate (2 - (lg_sl ([.ref (ad 0), .int p1])).length) Slot.unset).toArray = ls at hl ⊢
  have hl : lv_has ls 2 [(0, .ref (ad 0)), (1, .int p1)] := hl
  unfold wp_NF_variable at hq
  refine lv_iload_n hx hb d_NF_variable_0 rfl (lv_at hl 1 rfl) ?_
  refine lv_bipush (v := 8) hx hb d_NF_variable_1 (by decide) ?_
  refine va_calli (va_runS (As := [.int p1, .int 8]) (rest := []) ⟨hx, hb, hml, hown, hts⟩ (c_NF_isBelow (D := D) (cs := cs) hi hq) (va_cwS 2 hts (good_S wC_373 wC_259 wC_44 wC_260) rfl rfl rfl (by decide +kernel) ⟨(show 0 + 1 ≤ 6 by omega), (show 8 + (2 + 11) + 0 ≤ 90 by omega)⟩) ⟨cP_blind, fun U hU hW => ⟨rfl, by rw [hU]; exact hP, va_K.moved hW.alike hK, hN.warm hW⟩⟩ rfl rfl hl.1 rfl (lv_room (Nat.le_of_ble_eq_true rfl)) d_NF_variable_3 ⟨Nat.le_of_ble_eq_true rfl, Nat.le_of_ble_eq_true rfl⟩) hS (fun q _ h => h) (fun q h => h) (fun r1 s2 t H locs ht0 hvm hq hB hz1 hk1 hS => ?_)
  obtain ⟨hP, -, -⟩ := hB
  rw [ht0] at hP
  refine lv_if_ne (tgt := 19) hx hb d_NF_variable_6 (by decide) (fun c3 => ?_) (fun c3 => ?_)
  · have hq := hq.2 c3
    refine lv_aload_n hx hb d_NF_variable_19 rfl (lv_at hl 0 rfl) ?_
    refine cw_get (C := R_NF) (T := F_NF) (N := 3) (v := .ref (ad 9)) hx hb hts (in_NF _) hown hK hP 0 (by decide) rfl rfl 1 (by decide) (ht _ wC_228) rfl d_NF_variable_20 ?_
    refine cw_get (C := R_ST) (T := F_ST) (N := 6) (v := .ref (ad 10)) hx hb hts (in_ST _) hown hK hP 9 (by decide) rfl rfl 0 (by decide) (ht _ wC_123) rfl d_NF_variable_23 ?_
    refine lv_iload_n hx hb d_NF_variable_26 rfl (lv_at hl 1 rfl) ?_
    refine cw_dald hx hb hK hP 10 (by decide) rfl 1 rfl hq.1 d_NF_variable_27 ?_
    have hq := hq.2
    refine W.widen (k := 1) (n := 6) (by decide) (by decide) ?_
    exact vx_ret (W.dret hx hb hr (fun t ht hW => ⟨⟨(gD s2 0 p1.toNatClampNeg), s2, rfl, hq, by rw [ht]; exact hP, va_K.moved hW.alike hK, hN.warm hW⟩, hS.F ht⟩) hS.2.2 d_NF_variable_28)
  · have hq := hq.1 c3
    obtain ⟨sa, hsa⟩ := hXS 108 "no such variable" (by simp [xsL])
    exact vx_throwS hx hb hst (own := R_NF) (cls := "java/lang/IllegalArgumentException") (names := ["java/lang/RuntimeException", "java/lang/Exception"]) (text := "no such variable") (A := aK ad 51) hown (by decide +kernel) (by decide +kernel) (ht _ wC_275) (ht _ wC_54) hsa (th_IllegalArgumentException (fun w h => hts w h) hN) tho_IllegalArgumentException hU0 hN0 hS (by rw [hml]; exact hl.1) d_NF_variable_9 d_NF_variable_12 d_NF_variable_13 d_NF_variable_15 d_NF_variable_18 (fun x hx9 => (hex x hx9).elim) (show 2 + 3 < 6 by omega) (show _ ≤ 90 by simp only [List.map_cons, List.map_nil, List.sum_cons, List.sum_nil, Value.category, List.length_cons, List.length_nil]; omega) (Nat.le_of_ble_eq_true rfl) (Nat.le_of_ble_eq_true rfl) hlocks (fun t hv hz hk => ⟨s2, trivial, ⟨hq, hP.kept (fun k q h9 => hk _ (vx_lt hP h9))⟩, ⟨Nat.le_trans hS.1 hz, fun q h1 h2 => (hk q (Nat.lt_of_lt_of_le h1 hS.1)).trans (hS.2.1 q h1 h2)⟩⟩) hS.2.2 (Nat.le_of_ble_eq_true rfl) (Nat.le_of_ble_eq_true rfl)
def wp_NF_element (p1 : Int32) (p2 : Int32) (σ : CS) (Q : UInt64 → CS → Prop) (X : String → CS → Prop) : Prop := (wp_ST_holds p1.toInt64 p2.toInt64 σ (fun r1 s2 => ((r1 = 0 → X "java/lang/IndexOutOfBoundsException" s2) ∧ (¬ r1 = 0 → (wp_ST_place p1.toInt64 p2.toInt64 s2 (fun r4 s5 => (vp_in r4 25 ∧ Q (gD s5 1 r4.toNatClampNeg) s5)))))))
set_option maxHeartbeats 4000000 in
set_option maxRecDepth 100000 in
theorem c_NF_element {l : Launch} (hst : l.stackTraces = false) {D : va_G} {cs : CI} {ad : Nat → Nat} (hi : aI ad 51) {p1 : Int32} {p2 : Int32} {σ : CS} {Q : UInt64 → CS → Prop} {X : String → CS → Prop} (hq : wp_NF_element p1 p2 σ Q X) : vx_Met l y_NF_element (.code y_NF_element b_NF_element 3 (some .double) :: wC) ({ frames := 6, cells := 1, slots := 6, locals := 90 }) (va_Pc [.ref (ad 0), .int p1, .int p2] (fun U => cP D cs ad σ U ∧ XW (aK ad 51) U)) (va_Qd Q (cP D cs ad) (aK ad 51)) (vx_X (fun _ : CS => True) (fun E u t => X E u ∧ va_P D clA (wd ad (cont ad cs u) 51) t.heap) (aK ad 51)) 1 6 (aK ad 51) := by
  refine vx_ofW (cc := b_NF_element) (maxL := 3) (ret := (some .double)) (by decide) rfl ?_
  intro p e s m args below meth c s₁ B hml hex hv
  obtain ⟨rfl, ⟨hP, hK, hN⟩, hXW⟩ := hv
  obtain ⟨⟨tA, tB, tC, hZA, hTA, hZB, hTB, hZC, hTC⟩, hXS, hU0, hN0⟩ := id hXW
  have hx := B.exec
  have hb := B.bytes
  have hr := B.returns
  have hts := atoms_spec (ws := .code y_NF_element b_NF_element 3 (some .double) :: wC) B.pre
  have ht : ∀ w ∈ wC, w.before _ s = true := fun w h => hts w (List.mem_cons_of_mem _ h)
  have hown : s.vm.findClass R_NF = some m.cls := findClass_of_methodNamed B.named
  have hlocks := B.notSynchronized
  have hS : va_S (aK ad 51) s.heap s.heap [] := va_S.rf
  have hl := lv_entry ([.ref (ad 0), .int p1, .int p2]) (n := 3) (Nat.le_of_ble_eq_true rfl)
  rw [lg_entry_eq]
  generalize (lg_sl ([.ref (ad 0), .int p1, .int p2]) ++ List.replicate (3 - (lg_sl ([.ref (ad 0), .int p1, .int p2])).length) Slot.unset).toArray = ls at hl ⊢
  have hl : lv_has ls 3 [(0, .ref (ad 0)), (1, .int p1), (2, .int p2)] := hl
  unfold wp_NF_element at hq
  refine lv_aload_n hx hb d_NF_element_0 rfl (lv_at hl 0 rfl) ?_
  refine cw_get (C := R_NF) (T := F_NF) (N := 3) (v := .ref (ad 9)) hx hb hts (in_NF _) hown hK hP 0 (by decide) rfl rfl 1 (by decide) (ht _ wC_228) rfl d_NF_element_1 ?_
  refine lv_iload_n hx hb d_NF_element_4 rfl (lv_at hl 1 rfl) ?_
  refine lv_i2l hx hb d_NF_element_5 rfl ?_
  refine lv_iload_n hx hb d_NF_element_6 rfl (lv_at hl 2 rfl) ?_
  refine lv_i2l hx hb d_NF_element_7 rfl ?_
  refine va_calli (va_runV (As := [.long p1.toInt64, .long p2.toInt64]) (rest := []) ⟨hx, hb, hml, hown, hts⟩ (c_ST_holds (D := D) (cs := cs) hi hq) (cwV 2 hts (good_V wC_657 wC_523 wC_524 wC_47 wC_525) rfl rfl rfl (by decide +kernel) ⟨(show 0 + 1 ≤ 6 by omega), (show 8 + (5 + 11) + 0 ≤ 90 by omega)⟩) ⟨cP_blind, va_recv hK hP (ci := 3) (q0 := 9) rfl (wd_at (by decide) rfl), fun U hU hW => ⟨rfl, by rw [hU]; exact hP, va_K.moved hW.alike hK, hN.warm hW⟩⟩ rfl rfl hl.1 rfl (lv_room (Nat.le_of_ble_eq_true rfl)) d_NF_element_8 ⟨Nat.le_of_ble_eq_true rfl, Nat.le_of_ble_eq_true rfl⟩) hS (fun q _ h => h) (fun q h => h) (fun r1 s2 t H locs ht0 hvm hq hB hz1 hk1 hS => ?_)
  obtain ⟨hP, -, -⟩ := hB
  rw [ht0] at hP
  refine lv_if_ne (tgt := 24) hx hb d_NF_element_11 (by decide) (fun c3 => ?_) (fun c3 => ?_)
  · have hq := hq.2 c3
    refine lv_aload_n hx hb d_NF_element_24 rfl (lv_at hl 0 rfl) ?_
    refine cw_get (C := R_NF) (T := F_NF) (N := 3) (v := .ref (ad 9)) hx hb hts (in_NF _) hown hK hP 0 (by decide) rfl rfl 1 (by decide) (ht _ wC_228) rfl d_NF_element_25 ?_
    refine cw_get (C := R_ST) (T := F_ST) (N := 6) (v := .ref (ad 11)) hx hb hts (in_ST _) hown hK hP 9 (by decide) rfl rfl 1 (by decide) (ht _ wC_126) rfl d_NF_element_28 ?_
    refine lv_aload_n hx hb d_NF_element_31 rfl (lv_at hl 0 rfl) ?_
    refine cw_get (C := R_NF) (T := F_NF) (N := 3) (v := .ref (ad 9)) hx hb hts (in_NF _) hown hK hP 0 (by decide) rfl rfl 1 (by decide) (ht _ wC_228) rfl d_NF_element_32 ?_
    refine lv_iload_n hx hb d_NF_element_35 rfl (lv_at hl 1 rfl) ?_
    refine lv_i2l hx hb d_NF_element_36 rfl ?_
    refine lv_iload_n hx hb d_NF_element_37 rfl (lv_at hl 2 rfl) ?_
    refine lv_i2l hx hb d_NF_element_38 rfl ?_
    refine va_calli (va_runV (As := [.long p1.toInt64, .long p2.toInt64]) (rest := [.ref (ad 11)]) ⟨hx, hb, hml, hown, hts⟩ (c_ST_place (D := D) (cs := cs) hi hq) (cwV 2 hts (good_V wC_659 wC_527 wC_528 wC_47 wC_529) rfl rfl rfl (by decide +kernel) ⟨(show 0 + 1 ≤ 6 by omega), (show 8 + (5 + 11) + 0 ≤ 90 by omega)⟩) ⟨cP_blind, va_recv hK hP (ci := 3) (q0 := 9) rfl (wd_at (by decide) rfl), fun U hU hW => ⟨rfl, by rw [hU]; exact hP, va_K.moved hW.alike hK, hN.warm hW⟩⟩ rfl rfl hl.1 rfl (lv_room (Nat.le_of_ble_eq_true rfl)) d_NF_element_39 ⟨Nat.le_of_ble_eq_true rfl, Nat.le_of_ble_eq_true rfl⟩) hS (fun q _ h => h) (fun q h => h) (fun r4 s5 t H locs ht0 hvm hq hB hz1 hk1 hS => ?_)
    obtain ⟨hP, -, -⟩ := hB
    rw [ht0] at hP
    refine cw_dald hx hb hK hP 11 (by decide) rfl 1 rfl hq.1 d_NF_element_42 ?_
    have hq := hq.2
    refine W.widen (k := 1) (n := 6) (by decide) (by decide) ?_
    exact vx_ret (W.dret hx hb hr (fun t ht hW => ⟨⟨(gD s5 1 r4.toNatClampNeg), s5, rfl, hq, by rw [ht]; exact hP, va_K.moved hW.alike hK, hN.warm hW⟩, hS.F ht⟩) hS.2.2 d_NF_element_43)
  · have hq := hq.1 c3
    obtain ⟨sa, hsa⟩ := hXS 116 "no such element" (by simp [xsL])
    exact vx_throwS hx hb hst (own := R_NF) (cls := "java/lang/IndexOutOfBoundsException") (names := ["java/lang/RuntimeException", "java/lang/Exception"]) (text := "no such element") (A := aK ad 51) hown (by decide +kernel) (by decide +kernel) (ht _ wC_591) (ht _ wC_58) hsa (th_IndexOutOfBoundsException (fun w h => hts w h) hN) tho_IndexOutOfBoundsException hU0 hN0 hS (by rw [hml]; exact hl.1) d_NF_element_14 d_NF_element_17 d_NF_element_18 d_NF_element_20 d_NF_element_23 (fun x hx9 => (hex x hx9).elim) (show 2 + 3 < 6 by omega) (show _ ≤ 90 by simp only [List.map_cons, List.map_nil, List.sum_cons, List.sum_nil, Value.category, List.length_cons, List.length_nil]; omega) (Nat.le_of_ble_eq_true rfl) (Nat.le_of_ble_eq_true rfl) hlocks (fun t hv hz hk => ⟨s2, trivial, ⟨hq, hP.kept (fun k q h9 => hk _ (vx_lt hP h9))⟩, ⟨Nat.le_trans hS.1 hz, fun q h1 h2 => (hk q (Nat.lt_of_lt_of_le h1 hS.1)).trans (hS.2.1 q h1 h2)⟩⟩) hS.2.2 (Nat.le_of_ble_eq_true rfl) (Nat.le_of_ble_eq_true rfl)
def wp_NF_node (p1 : Int32) (p2 : Int32) (σ : CS) (Q : Int32 → CS → Prop) (X : String → CS → Prop) : Prop := (wp_NF_isBelow p2 4 σ (fun r1 s2 => ((r1 = 0 → X "java/lang/IllegalArgumentException" s2) ∧ (¬ r1 = 0 → (wp_PR_has p1 s2 (fun r4 s5 => ((r4 = 0 → X "java/lang/IndexOutOfBoundsException" s5) ∧ (¬ r4 = 0 → ((p2 = 0 → (vp_in p1 48 ∧ Q (gA s5 0 p1.toNatClampNeg) s5)) ∧ (¬ p2 = 0 → ((p2 = 1 → (vp_in p1 48 ∧ Q (gA s5 1 p1.toNatClampNeg) s5)) ∧ (¬ p2 = 1 → ((p2 = 2 → (vp_in p1 48 ∧ Q (gA s5 2 p1.toNatClampNeg) s5)) ∧ (¬ p2 = 2 → (vp_in p1 48 ∧ Q (gA s5 3 p1.toNatClampNeg) s5)))))))))))))))
set_option maxHeartbeats 4000000 in
set_option maxRecDepth 100000 in
theorem c_NF_node {l : Launch} (hst : l.stackTraces = false) {D : va_G} {cs : CI} {ad : Nat → Nat} (hi : aI ad 51) {p1 : Int32} {p2 : Int32} {σ : CS} {Q : Int32 → CS → Prop} {X : String → CS → Prop} (hq : wp_NF_node p1 p2 σ Q X) : vx_Met l y_NF_node (.code y_NF_node b_NF_node 3 (some .int) :: wC) ({ frames := 6, cells := 1, slots := 6, locals := 90 }) (va_Pc [.ref (ad 0), .int p1, .int p2] (fun U => cP D cs ad σ U ∧ XW (aK ad 51) U)) (va_Qi Q (cP D cs ad) (aK ad 51)) (vx_X (fun _ : CS => True) (fun E u t => X E u ∧ va_P D clA (wd ad (cont ad cs u) 51) t.heap) (aK ad 51)) 1 6 (aK ad 51) := by
  refine vx_ofW (cc := b_NF_node) (maxL := 3) (ret := (some .int)) (by decide) rfl ?_
  intro p e s m args below meth c s₁ B hml hex hv
  obtain ⟨rfl, ⟨hP, hK, hN⟩, hXW⟩ := hv
  obtain ⟨⟨tA, tB, tC, hZA, hTA, hZB, hTB, hZC, hTC⟩, hXS, hU0, hN0⟩ := id hXW
  have hx := B.exec
  have hb := B.bytes
  have hr := B.returns
  have hts := atoms_spec (ws := .code y_NF_node b_NF_node 3 (some .int) :: wC) B.pre
  have ht : ∀ w ∈ wC, w.before _ s = true := fun w h => hts w (List.mem_cons_of_mem _ h)
  have hown : s.vm.findClass R_NF = some m.cls := findClass_of_methodNamed B.named
  have hlocks := B.notSynchronized
  have hS : va_S (aK ad 51) s.heap s.heap [] := va_S.rf
  have hl := lv_entry ([.ref (ad 0), .int p1, .int p2]) (n := 3) (Nat.le_of_ble_eq_true rfl)
  rw [lg_entry_eq]
  generalize (lg_sl ([.ref (ad 0), .int p1, .int p2]) ++ List.replicate (3 - (lg_sl ([.ref (ad 0), .int p1, .int p2])).length) Slot.unset).toArray = ls at hl ⊢
  have hl : lv_has ls 3 [(0, .ref (ad 0)), (1, .int p1), (2, .int p2)] := hl
  unfold wp_NF_node at hq
  refine lv_iload_n hx hb d_NF_node_0 rfl (lv_at hl 2 rfl) ?_
  refine lv_iconst (v := 4) hx hb d_NF_node_1 (by decide) ?_
  refine va_calli (va_runS (As := [.int p2, .int 4]) (rest := []) ⟨hx, hb, hml, hown, hts⟩ (c_NF_isBelow (D := D) (cs := cs) hi hq) (va_cwS 2 hts (good_S wC_373 wC_259 wC_44 wC_260) rfl rfl rfl (by decide +kernel) ⟨(show 0 + 1 ≤ 6 by omega), (show 8 + (2 + 11) + 0 ≤ 90 by omega)⟩) ⟨cP_blind, fun U hU hW => ⟨rfl, by rw [hU]; exact hP, va_K.moved hW.alike hK, hN.warm hW⟩⟩ rfl rfl hl.1 rfl (lv_room (Nat.le_of_ble_eq_true rfl)) d_NF_node_2 ⟨Nat.le_of_ble_eq_true rfl, Nat.le_of_ble_eq_true rfl⟩) hS (fun q _ h => h) (fun q h => h) (fun r1 s2 t H locs ht0 hvm hq hB hz1 hk1 hS => ?_)
  obtain ⟨hP, -, -⟩ := hB
  rw [ht0] at hP
  refine lv_if_ne (tgt := 18) hx hb d_NF_node_5 (by decide) (fun c3 => ?_) (fun c3 => ?_)
  · have hq := hq.2 c3
    refine lv_aload_n hx hb d_NF_node_18 rfl (lv_at hl 0 rfl) ?_
    refine cw_get (C := R_NF) (T := F_NF) (N := 3) (v := .ref (ad 1)) hx hb hts (in_NF _) hown hK hP 0 (by decide) rfl rfl 0 (by decide) (ht _ wC_227) rfl d_NF_node_19 ?_
    refine lv_iload_n hx hb d_NF_node_22 rfl (lv_at hl 1 rfl) ?_
    refine va_calli (va_runV (As := [.int p1]) (rest := []) ⟨hx, hb, hml, hown, hts⟩ (c_PR_has (D := D) (cs := cs) hi hq) (cwV 1 hts (good_V wC_374 wC_268 wC_269 wC_45 wC_270) rfl rfl rfl (by decide +kernel) ⟨(show 1 + 1 ≤ 6 by omega), (show 8 + (2 + 11) + 21 ≤ 90 by omega)⟩) ⟨cP_blind, va_recv hK hP (ci := 2) (q0 := 1) rfl (wd_at (by decide) rfl), fun U hU hW => ⟨rfl, by rw [hU]; exact hP, va_K.moved hW.alike hK, hN.warm hW⟩⟩ rfl rfl hl.1 rfl (lv_room (Nat.le_of_ble_eq_true rfl)) d_NF_node_23 ⟨Nat.le_of_ble_eq_true rfl, Nat.le_of_ble_eq_true rfl⟩) hS (fun q _ h => h) (fun q h => h) (fun r4 s5 t H locs ht0 hvm hq hB hz1 hk1 hS => ?_)
    obtain ⟨hP, -, -⟩ := hB
    rw [ht0] at hP
    refine lv_if_ne (tgt := 39) hx hb d_NF_node_26 (by decide) (fun c6 => ?_) (fun c6 => ?_)
    · have hq := hq.2 c6
      refine lv_iload_n hx hb d_NF_node_39 rfl (lv_at hl 2 rfl) ?_
      by_cases c7 : p2 = 0
      · have hq := hq.1 c7
        refine lv_tableIn (tgt := 68) hx hb d_NF_node_40 (by rw [c7]; decide) (by rw [c7]; decide) (by rw [c7]; rfl) (by decide) ?_
        refine lv_aload_n hx hb d_NF_node_68 rfl (lv_at hl 0 rfl) ?_
        refine cw_get (C := R_NF) (T := F_NF) (N := 3) (v := .ref (ad 1)) hx hb hts (in_NF _) hown hK hP 0 (by decide) rfl rfl 0 (by decide) (ht _ wC_227) rfl d_NF_node_69 ?_
        refine cw_get (C := R_PR) (T := F_PR) (N := 8) (v := .ref (ad 2)) hx hb hts (in_PR _) hown hK hP 1 (by decide) rfl rfl 0 (by decide) (ht _ wC_80) rfl d_NF_node_72 ?_
        refine lv_iload_n hx hb d_NF_node_75 rfl (lv_at hl 1 rfl) ?_
        refine cw_iald hx hb hK hP 2 (by decide) rfl 0 rfl hq.1 d_NF_node_76 ?_
        have hq := hq.2
        refine W.widen (k := 1) (n := 6) (by decide) (by decide) ?_
        exact vx_ret (W.iret hx hb hr (fun t ht hW => ⟨⟨(gA s5 0 p1.toNatClampNeg), s5, rfl, hq, by rw [ht]; exact hP, va_K.moved hW.alike hK, hN.warm hW⟩, hS.F ht⟩) hS.2.2 d_NF_node_77)
      have hq := hq.2 c7
      by_cases c8 : p2 = 1
      · have hq := hq.1 c8
        refine lv_tableIn (tgt := 78) hx hb d_NF_node_40 (by rw [c8]; decide) (by rw [c8]; decide) (by rw [c8]; rfl) (by decide) ?_
        refine lv_aload_n hx hb d_NF_node_78 rfl (lv_at hl 0 rfl) ?_
        refine cw_get (C := R_NF) (T := F_NF) (N := 3) (v := .ref (ad 1)) hx hb hts (in_NF _) hown hK hP 0 (by decide) rfl rfl 0 (by decide) (ht _ wC_227) rfl d_NF_node_79 ?_
        refine cw_get (C := R_PR) (T := F_PR) (N := 8) (v := .ref (ad 3)) hx hb hts (in_PR _) hown hK hP 1 (by decide) rfl rfl 1 (by decide) (ht _ wC_83) rfl d_NF_node_82 ?_
        refine lv_iload_n hx hb d_NF_node_85 rfl (lv_at hl 1 rfl) ?_
        refine cw_iald hx hb hK hP 3 (by decide) rfl 0 rfl hq.1 d_NF_node_86 ?_
        have hq := hq.2
        refine W.widen (k := 1) (n := 6) (by decide) (by decide) ?_
        exact vx_ret (W.iret hx hb hr (fun t ht hW => ⟨⟨(gA s5 1 p1.toNatClampNeg), s5, rfl, hq, by rw [ht]; exact hP, va_K.moved hW.alike hK, hN.warm hW⟩, hS.F ht⟩) hS.2.2 d_NF_node_87)
      have hq := hq.2 c8
      by_cases c9 : p2 = 2
      · have hq := hq.1 c9
        refine lv_tableIn (tgt := 88) hx hb d_NF_node_40 (by rw [c9]; decide) (by rw [c9]; decide) (by rw [c9]; rfl) (by decide) ?_
        refine lv_aload_n hx hb d_NF_node_88 rfl (lv_at hl 0 rfl) ?_
        refine cw_get (C := R_NF) (T := F_NF) (N := 3) (v := .ref (ad 1)) hx hb hts (in_NF _) hown hK hP 0 (by decide) rfl rfl 0 (by decide) (ht _ wC_227) rfl d_NF_node_89 ?_
        refine cw_get (C := R_PR) (T := F_PR) (N := 8) (v := .ref (ad 4)) hx hb hts (in_PR _) hown hK hP 1 (by decide) rfl rfl 2 (by decide) (ht _ wC_86) rfl d_NF_node_92 ?_
        refine lv_iload_n hx hb d_NF_node_95 rfl (lv_at hl 1 rfl) ?_
        refine cw_iald hx hb hK hP 4 (by decide) rfl 0 rfl hq.1 d_NF_node_96 ?_
        have hq := hq.2
        refine W.widen (k := 1) (n := 6) (by decide) (by decide) ?_
        exact vx_ret (W.iret hx hb hr (fun t ht hW => ⟨⟨(gA s5 2 p1.toNatClampNeg), s5, rfl, hq, by rw [ht]; exact hP, va_K.moved hW.alike hK, hN.warm hW⟩, hS.F ht⟩) hS.2.2 d_NF_node_97)
      have hq := hq.2 c9
      refine cw_tabD (tgt := 98) hx hb d_NF_node_40 (by decide) ?_ ?_
      · have e_c7 := lv_neT c7 (a := 0) rfl; have e_c8 := lv_neT c8 (a := 1) rfl; have e_c9 := lv_neT c9 (a := 2) rfl
        have g3 : p2.toInt < 0 ∨ 2 < p2.toInt := by omega
        exact g3.elim Or.inl (fun g => Or.inr (Or.inl g))
      refine lv_aload_n hx hb d_NF_node_98 rfl (lv_at hl 0 rfl) ?_
      refine cw_get (C := R_NF) (T := F_NF) (N := 3) (v := .ref (ad 1)) hx hb hts (in_NF _) hown hK hP 0 (by decide) rfl rfl 0 (by decide) (ht _ wC_227) rfl d_NF_node_99 ?_
      refine cw_get (C := R_PR) (T := F_PR) (N := 8) (v := .ref (ad 5)) hx hb hts (in_PR _) hown hK hP 1 (by decide) rfl rfl 3 (by decide) (ht _ wC_88) rfl d_NF_node_102 ?_
      refine lv_iload_n hx hb d_NF_node_105 rfl (lv_at hl 1 rfl) ?_
      refine cw_iald hx hb hK hP 5 (by decide) rfl 0 rfl hq.1 d_NF_node_106 ?_
      have hq := hq.2
      refine W.widen (k := 1) (n := 6) (by decide) (by decide) ?_
      exact vx_ret (W.iret hx hb hr (fun t ht hW => ⟨⟨(gA s5 3 p1.toNatClampNeg), s5, rfl, hq, by rw [ht]; exact hP, va_K.moved hW.alike hK, hN.warm hW⟩, hS.F ht⟩) hS.2.2 d_NF_node_107)
    · have hq := hq.1 c6
      obtain ⟨sa, hsa⟩ := hXS 95 "no such node" (by simp [xsL])
      exact vx_throwS hx hb hst (own := R_NF) (cls := "java/lang/IndexOutOfBoundsException") (names := ["java/lang/RuntimeException", "java/lang/Exception"]) (text := "no such node") (A := aK ad 51) hown (by decide +kernel) (by decide +kernel) (ht _ wC_591) (ht _ wC_58) hsa (th_IndexOutOfBoundsException (fun w h => hts w h) hN) tho_IndexOutOfBoundsException hU0 hN0 hS (by rw [hml]; exact hl.1) d_NF_node_29 d_NF_node_32 d_NF_node_33 d_NF_node_35 d_NF_node_38 (fun x hx9 => (hex x hx9).elim) (show 2 + 3 < 6 by omega) (show _ ≤ 90 by simp only [List.map_cons, List.map_nil, List.sum_cons, List.sum_nil, Value.category, List.length_cons, List.length_nil]; omega) (Nat.le_of_ble_eq_true rfl) (Nat.le_of_ble_eq_true rfl) hlocks (fun t hv hz hk => ⟨s5, trivial, ⟨hq, hP.kept (fun k q h9 => hk _ (vx_lt hP h9))⟩, ⟨Nat.le_trans hS.1 hz, fun q h1 h2 => (hk q (Nat.lt_of_lt_of_le h1 hS.1)).trans (hS.2.1 q h1 h2)⟩⟩) hS.2.2 (Nat.le_of_ble_eq_true rfl) (Nat.le_of_ble_eq_true rfl)
  · have hq := hq.1 c3
    obtain ⟨sa, hsa⟩ := hXS 126 "a node has nothing of this number" (by simp [xsL])
    exact vx_throwS hx hb hst (own := R_NF) (cls := "java/lang/IllegalArgumentException") (names := ["java/lang/RuntimeException", "java/lang/Exception"]) (text := "a node has nothing of this number") (A := aK ad 51) hown (by decide +kernel) (by decide +kernel) (ht _ wC_275) (ht _ wC_54) hsa (th_IllegalArgumentException (fun w h => hts w h) hN) tho_IllegalArgumentException hU0 hN0 hS (by rw [hml]; exact hl.1) d_NF_node_8 d_NF_node_11 d_NF_node_12 d_NF_node_14 d_NF_node_17 (fun x hx9 => (hex x hx9).elim) (show 2 + 3 < 6 by omega) (show _ ≤ 90 by simp only [List.map_cons, List.map_nil, List.sum_cons, List.sum_nil, Value.category, List.length_cons, List.length_nil]; omega) (Nat.le_of_ble_eq_true rfl) (Nat.le_of_ble_eq_true rfl) hlocks (fun t hv hz hk => ⟨s2, trivial, ⟨hq, hP.kept (fun k q h9 => hk _ (vx_lt hP h9))⟩, ⟨Nat.le_trans hS.1 hz, fun q h1 h2 => (hk q (Nat.lt_of_lt_of_le h1 hS.1)).trans (hS.2.1 q h1 h2)⟩⟩) hS.2.2 (Nat.le_of_ble_eq_true rfl) (Nat.le_of_ble_eq_true rfl)
def wp_NF_count (p1 : Int32) (σ : CS) (Q : Int32 → CS → Prop) (X : String → CS → Prop) : Prop := ((p1 = 0 → Q (gI σ 8) σ) ∧ (¬ p1 = 0 → ((p1 = 1 → (wp_ST_size  σ (fun r3 s4 => Q r3 s4))) ∧ (¬ p1 = 1 → ((p1 = 2 → Q (gI σ 0) σ) ∧ (¬ p1 = 2 → ((p1 = 3 → Q (gI σ 1) σ) ∧ (¬ p1 = 3 → ((p1 = 4 → Q (gI σ 2) σ) ∧ (¬ p1 = 4 → ((p1 = 5 → Q (gI σ 3) σ) ∧ (¬ p1 = 5 → ((p1 = 6 → Q (gI σ 4) σ) ∧ (¬ p1 = 6 → X "java/lang/IllegalArgumentException" σ))))))))))))))
set_option maxHeartbeats 4000000 in
set_option maxRecDepth 100000 in
theorem c_NF_count {l : Launch} (hst : l.stackTraces = false) {D : va_G} {cs : CI} {ad : Nat → Nat} (hi : aI ad 51) {p1 : Int32} {σ : CS} {Q : Int32 → CS → Prop} {X : String → CS → Prop} (hq : wp_NF_count p1 σ Q X) : vx_Met l y_NF_count (.code y_NF_count b_NF_count 2 (some .int) :: wC) ({ frames := 6, cells := 1, slots := 6, locals := 90 }) (va_Pc [.ref (ad 0), .int p1] (fun U => cP D cs ad σ U ∧ XW (aK ad 51) U)) (va_Qi Q (cP D cs ad) (aK ad 51)) (vx_X (fun _ : CS => True) (fun E u t => X E u ∧ va_P D clA (wd ad (cont ad cs u) 51) t.heap) (aK ad 51)) 1 6 (aK ad 51) := by
  refine vx_ofW (cc := b_NF_count) (maxL := 2) (ret := (some .int)) (by decide) rfl ?_
  intro p e s m args below meth c s₁ B hml hex hv
  obtain ⟨rfl, ⟨hP, hK, hN⟩, hXW⟩ := hv
  obtain ⟨⟨tA, tB, tC, hZA, hTA, hZB, hTB, hZC, hTC⟩, hXS, hU0, hN0⟩ := id hXW
  have hx := B.exec
  have hb := B.bytes
  have hr := B.returns
  have hts := atoms_spec (ws := .code y_NF_count b_NF_count 2 (some .int) :: wC) B.pre
  have ht : ∀ w ∈ wC, w.before _ s = true := fun w h => hts w (List.mem_cons_of_mem _ h)
  have hown : s.vm.findClass R_NF = some m.cls := findClass_of_methodNamed B.named
  have hlocks := B.notSynchronized
  have hS : va_S (aK ad 51) s.heap s.heap [] := va_S.rf
  have hl := lv_entry ([.ref (ad 0), .int p1]) (n := 2) (Nat.le_of_ble_eq_true rfl)
  rw [lg_entry_eq]
  generalize (lg_sl ([.ref (ad 0), .int p1]) ++ List.replicate (2 - (lg_sl ([.ref (ad 0), .int p1])).length) Slot.unset).toArray = ls at hl ⊢
  have hl : lv_has ls 2 [(0, .ref (ad 0)), (1, .int p1)] := hl
  unfold wp_NF_count at hq
  refine lv_iload_n hx hb d_NF_count_0 rfl (lv_at hl 1 rfl) ?_
  by_cases c1 : p1 = 0
  · have hq := hq.1 c1
    refine lv_tableIn (tgt := 44) hx hb d_NF_count_1 (by rw [c1]; decide) (by rw [c1]; decide) (by rw [c1]; rfl) (by decide) ?_
    refine lv_aload_n hx hb d_NF_count_44 rfl (lv_at hl 0 rfl) ?_
    refine cw_get (C := R_NF) (T := F_NF) (N := 3) (v := .ref (ad 1)) hx hb hts (in_NF _) hown hK hP 0 (by decide) rfl rfl 0 (by decide) (ht _ wC_227) rfl d_NF_count_45 ?_
    refine cw_get (C := R_PR) (T := F_PR) (N := 8) (v := .int (gI σ 8)) hx hb hts (in_PR _) hown hK hP 1 (by decide) rfl rfl 4 (by decide) (ht _ wC_91) rfl d_NF_count_48 ?_
    refine W.widen (k := 1) (n := 6) (by decide) (by decide) ?_
    exact vx_ret (W.iret hx hb hr (fun t ht hW => ⟨⟨(gI σ 8), σ, rfl, hq, by rw [ht]; exact hP, va_K.moved hW.alike hK, hN.warm hW⟩, hS.F ht⟩) hS.2.2 d_NF_count_51)
  have hq := hq.2 c1
  by_cases c2 : p1 = 1
  · have hq := hq.1 c2
    refine lv_tableIn (tgt := 52) hx hb d_NF_count_1 (by rw [c2]; decide) (by rw [c2]; decide) (by rw [c2]; rfl) (by decide) ?_
    refine lv_aload_n hx hb d_NF_count_52 rfl (lv_at hl 0 rfl) ?_
    refine cw_get (C := R_NF) (T := F_NF) (N := 3) (v := .ref (ad 9)) hx hb hts (in_NF _) hown hK hP 0 (by decide) rfl rfl 1 (by decide) (ht _ wC_228) rfl d_NF_count_53 ?_
    refine va_calli (va_runV (As := []) (rest := []) ⟨hx, hb, hml, hown, hts⟩ (c_ST_size (D := D) (cs := cs) hi hq) (cwV 0 hts (good_V wC_398 wC_399 wC_400 wC_47 wC_401) rfl rfl rfl (by decide +kernel) ⟨(show 0 + 1 ≤ 6 by omega), (show 8 + (1 + 11) + 0 ≤ 90 by omega)⟩) ⟨cP_blind, va_recv hK hP (ci := 3) (q0 := 9) rfl (wd_at (by decide) rfl), fun U hU hW => ⟨rfl, by rw [hU]; exact hP, va_K.moved hW.alike hK, hN.warm hW⟩⟩ rfl rfl hl.1 rfl (lv_room (Nat.le_of_ble_eq_true rfl)) d_NF_count_56 ⟨Nat.le_of_ble_eq_true rfl, Nat.le_of_ble_eq_true rfl⟩) hS (fun q _ h => h) (fun q h => h) (fun r3 s4 t H locs ht0 hvm hq hB hz1 hk1 hS => ?_)
    obtain ⟨hP, -, -⟩ := hB
    rw [ht0] at hP
    refine W.widen (k := 1) (n := 6) (by decide) (by decide) ?_
    exact vx_ret (W.iret hx hb hr (fun t ht hW => ⟨⟨r3, s4, rfl, hq, by rw [ht]; exact hP, va_K.moved hW.alike hK, hN.warm hW⟩, hS.F ht⟩) hS.2.2 d_NF_count_59)
  have hq := hq.2 c2
  by_cases c5 : p1 = 2
  · have hq := hq.1 c5
    refine lv_tableIn (tgt := 60) hx hb d_NF_count_1 (by rw [c5]; decide) (by rw [c5]; decide) (by rw [c5]; rfl) (by decide) ?_
    refine lv_aload_n hx hb d_NF_count_60 rfl (lv_at hl 0 rfl) ?_
    refine cw_get (C := R_NF) (T := F_NF) (N := 3) (v := .ref (ad 12)) hx hb hts (in_NF _) hown hK hP 0 (by decide) rfl rfl 2 (by decide) (ht _ wC_229) rfl d_NF_count_61 ?_
    refine cw_get (C := R_WK) (T := F_WK) (N := 13) (v := .int (gI σ 0)) hx hb hts (in_WK _) hown hK hP 12 (by decide) rfl rfl 0 (by decide) (ht _ wC_183) rfl d_NF_count_64 ?_
    refine W.widen (k := 1) (n := 6) (by decide) (by decide) ?_
    exact vx_ret (W.iret hx hb hr (fun t ht hW => ⟨⟨(gI σ 0), σ, rfl, hq, by rw [ht]; exact hP, va_K.moved hW.alike hK, hN.warm hW⟩, hS.F ht⟩) hS.2.2 d_NF_count_67)
  have hq := hq.2 c5
  by_cases c6 : p1 = 3
  · have hq := hq.1 c6
    refine lv_tableIn (tgt := 68) hx hb d_NF_count_1 (by rw [c6]; decide) (by rw [c6]; decide) (by rw [c6]; rfl) (by decide) ?_
    refine lv_aload_n hx hb d_NF_count_68 rfl (lv_at hl 0 rfl) ?_
    refine cw_get (C := R_NF) (T := F_NF) (N := 3) (v := .ref (ad 12)) hx hb hts (in_NF _) hown hK hP 0 (by decide) rfl rfl 2 (by decide) (ht _ wC_229) rfl d_NF_count_69 ?_
    refine cw_get (C := R_WK) (T := F_WK) (N := 13) (v := .int (gI σ 1)) hx hb hts (in_WK _) hown hK hP 12 (by decide) rfl rfl 1 (by decide) (ht _ wC_185) rfl d_NF_count_72 ?_
    refine W.widen (k := 1) (n := 6) (by decide) (by decide) ?_
    exact vx_ret (W.iret hx hb hr (fun t ht hW => ⟨⟨(gI σ 1), σ, rfl, hq, by rw [ht]; exact hP, va_K.moved hW.alike hK, hN.warm hW⟩, hS.F ht⟩) hS.2.2 d_NF_count_75)
  have hq := hq.2 c6
  by_cases c7 : p1 = 4
  · have hq := hq.1 c7
    refine lv_tableIn (tgt := 76) hx hb d_NF_count_1 (by rw [c7]; decide) (by rw [c7]; decide) (by rw [c7]; rfl) (by decide) ?_
    refine lv_aload_n hx hb d_NF_count_76 rfl (lv_at hl 0 rfl) ?_
    refine cw_get (C := R_NF) (T := F_NF) (N := 3) (v := .ref (ad 12)) hx hb hts (in_NF _) hown hK hP 0 (by decide) rfl rfl 2 (by decide) (ht _ wC_229) rfl d_NF_count_77 ?_
    refine cw_get (C := R_WK) (T := F_WK) (N := 13) (v := .int (gI σ 2)) hx hb hts (in_WK _) hown hK hP 12 (by decide) rfl rfl 2 (by decide) (ht _ wC_187) rfl d_NF_count_80 ?_
    refine W.widen (k := 1) (n := 6) (by decide) (by decide) ?_
    exact vx_ret (W.iret hx hb hr (fun t ht hW => ⟨⟨(gI σ 2), σ, rfl, hq, by rw [ht]; exact hP, va_K.moved hW.alike hK, hN.warm hW⟩, hS.F ht⟩) hS.2.2 d_NF_count_83)
  have hq := hq.2 c7
  by_cases c8 : p1 = 5
  · have hq := hq.1 c8
    refine lv_tableIn (tgt := 84) hx hb d_NF_count_1 (by rw [c8]; decide) (by rw [c8]; decide) (by rw [c8]; rfl) (by decide) ?_
    refine lv_aload_n hx hb d_NF_count_84 rfl (lv_at hl 0 rfl) ?_
    refine cw_get (C := R_NF) (T := F_NF) (N := 3) (v := .ref (ad 12)) hx hb hts (in_NF _) hown hK hP 0 (by decide) rfl rfl 2 (by decide) (ht _ wC_229) rfl d_NF_count_85 ?_
    refine cw_get (C := R_WK) (T := F_WK) (N := 13) (v := .int (gI σ 3)) hx hb hts (in_WK _) hown hK hP 12 (by decide) rfl rfl 3 (by decide) (ht _ wC_189) rfl d_NF_count_88 ?_
    refine W.widen (k := 1) (n := 6) (by decide) (by decide) ?_
    exact vx_ret (W.iret hx hb hr (fun t ht hW => ⟨⟨(gI σ 3), σ, rfl, hq, by rw [ht]; exact hP, va_K.moved hW.alike hK, hN.warm hW⟩, hS.F ht⟩) hS.2.2 d_NF_count_91)
  have hq := hq.2 c8
  by_cases c9 : p1 = 6
  · have hq := hq.1 c9
    refine lv_tableIn (tgt := 92) hx hb d_NF_count_1 (by rw [c9]; decide) (by rw [c9]; decide) (by rw [c9]; rfl) (by decide) ?_
    refine lv_aload_n hx hb d_NF_count_92 rfl (lv_at hl 0 rfl) ?_
    refine cw_get (C := R_NF) (T := F_NF) (N := 3) (v := .ref (ad 12)) hx hb hts (in_NF _) hown hK hP 0 (by decide) rfl rfl 2 (by decide) (ht _ wC_229) rfl d_NF_count_93 ?_
    refine cw_get (C := R_WK) (T := F_WK) (N := 13) (v := .int (gI σ 4)) hx hb hts (in_WK _) hown hK hP 12 (by decide) rfl rfl 4 (by decide) (ht _ wC_191) rfl d_NF_count_96 ?_
    refine W.widen (k := 1) (n := 6) (by decide) (by decide) ?_
    exact vx_ret (W.iret hx hb hr (fun t ht hW => ⟨⟨(gI σ 4), σ, rfl, hq, by rw [ht]; exact hP, va_K.moved hW.alike hK, hN.warm hW⟩, hS.F ht⟩) hS.2.2 d_NF_count_99)
  have hq := hq.2 c9
  refine cw_tabD (tgt := 100) hx hb d_NF_count_1 (by decide) ?_ ?_
  · have e_c1 := lv_neT c1 (a := 0) rfl; have e_c2 := lv_neT c2 (a := 1) rfl; have e_c5 := lv_neT c5 (a := 2) rfl; have e_c6 := lv_neT c6 (a := 3) rfl; have e_c7 := lv_neT c7 (a := 4) rfl; have e_c8 := lv_neT c8 (a := 5) rfl; have e_c9 := lv_neT c9 (a := 6) rfl
    have g3 : p1.toInt < 0 ∨ 6 < p1.toInt := by omega
    exact g3.elim Or.inl (fun g => Or.inr (Or.inl g))
  obtain ⟨sa, hsa⟩ := hXS 156 "nothing of this number is counted" (by simp [xsL])
  exact vx_throwS hx hb hst (own := R_NF) (cls := "java/lang/IllegalArgumentException") (names := ["java/lang/RuntimeException", "java/lang/Exception"]) (text := "nothing of this number is counted") (A := aK ad 51) hown (by decide +kernel) (by decide +kernel) (ht _ wC_275) (ht _ wC_54) hsa (th_IllegalArgumentException (fun w h => hts w h) hN) tho_IllegalArgumentException hU0 hN0 hS (by rw [hml]; exact hl.1) d_NF_count_100 d_NF_count_103 d_NF_count_104 d_NF_count_106 d_NF_count_109 (fun x hx9 => (hex x hx9).elim) (show 2 + 3 < 6 by omega) (show _ ≤ 90 by simp only [List.map_cons, List.map_nil, List.sum_cons, List.sum_nil, Value.category, List.length_cons, List.length_nil]; omega) (Nat.le_of_ble_eq_true rfl) (Nat.le_of_ble_eq_true rfl) hlocks (fun t hv hz hk => ⟨σ, trivial, ⟨hq, hP.kept (fun k q h9 => hk _ (vx_lt hP h9))⟩, ⟨Nat.le_trans hS.1 hz, fun q h1 h2 => (hk q (Nat.lt_of_lt_of_le h1 hS.1)).trans (hS.2.1 q h1 h2)⟩⟩) hS.2.2 (Nat.le_of_ble_eq_true rfl) (Nat.le_of_ble_eq_true rfl)
def wp_NF_clear  (σ : CS) (Q : Int32 → CS → Prop) : Prop := (wp_PR_empty  σ (fun s2 => Q (gI σ 8) s2))
set_option maxHeartbeats 4000000 in
set_option maxRecDepth 100000 in
theorem c_NF_clear {l : Launch} {D : va_G} {cs : CI} {ad : Nat → Nat} (hi : aI ad 51)  {σ : CS} {Q : Int32 → CS → Prop} (hq : wp_NF_clear  σ Q) : Met l y_NF_clear (.code y_NF_clear b_NF_clear 2 (some .int) :: wC) ({ frames := 2, cells := 0, slots := 0, locals := 43 }) (va_Pc [.ref (ad 0)] (cP D cs ad σ)) (va_Qi Q (cP D cs ad) (aK ad 51)) 0 0 (aK ad 51) := by
  refine Met.ofW (cc := b_NF_clear) (maxL := 2) (ret := (some .int)) (by decide) rfl ?_
  intro p e s m args below meth c s₁ B hml hv
  obtain ⟨rfl, hP, hK, hN⟩ := hv
  have hx := B.exec
  have hb := B.bytes
  have hr := B.returns
  have hts := atoms_spec (ws := .code y_NF_clear b_NF_clear 2 (some .int) :: wC) B.pre
  have ht : ∀ w ∈ wC, w.before _ s = true := fun w h => hts w (List.mem_cons_of_mem _ h)
  have hown : s.vm.findClass R_NF = some m.cls := findClass_of_methodNamed B.named
  have hlocks := B.notSynchronized
  have hS : va_S (aK ad 51) s.heap s.heap [] := va_S.rf
  have hl := lv_entry ([.ref (ad 0)]) (n := 2) (Nat.le_of_ble_eq_true rfl)
  rw [lg_entry_eq]
  generalize (lg_sl ([.ref (ad 0)]) ++ List.replicate (2 - (lg_sl ([.ref (ad 0)])).length) Slot.unset).toArray = ls at hl ⊢
  have hl : lv_has ls 2 [(0, .ref (ad 0))] := hl
  unfold wp_NF_clear at hq
  have hh8 : 8 < 9 := by decide
  refine lv_aload_n hx hb d_NF_clear_0 rfl (lv_at hl 0 rfl) ?_
  refine cw_get (C := R_NF) (T := F_NF) (N := 3) (v := .ref (ad 1)) hx hb hts (in_NF _) hown hK hP 0 (by decide) rfl rfl 0 (by decide) (ht _ wC_227) rfl d_NF_clear_1 ?_
  refine cw_get (C := R_PR) (T := F_PR) (N := 8) (v := .int (gI σ 8)) hx hb hts (in_PR _) hown hK hP 1 (by decide) rfl rfl 4 (by decide) (ht _ wC_91) rfl d_NF_clear_4 ?_
  refine lv_istore_n (lv' := [(1, .int (gI σ 8)), (0, .ref (ad 0))]) hx hb d_NF_clear_7 rfl hl (by decide) rfl (fun ls hl => ?_)
  refine lv_aload_n hx hb d_NF_clear_8 rfl (lv_at hl 1 rfl) ?_
  refine cw_get (C := R_NF) (T := F_NF) (N := 3) (v := .ref (ad 1)) hx hb hts (in_NF _) hown hK hP 0 (by decide) rfl rfl 0 (by decide) (ht _ wC_227) rfl d_NF_clear_9 ?_
  refine va_callv (va_runV (As := []) (rest := []) ⟨hx, hb, hml, hown, hts⟩ (c_PR_empty (D := D) (cs := cs) hi hq) (cwV 0 hts (good_V wC_241 wC_242 wC_243 wC_45 wC_244) rfl rfl rfl (by decide +kernel) ⟨(show 1 + 1 ≤ 2 by omega), (show 8 + (1 + 11) + 23 ≤ 43 by omega)⟩) ⟨cP_blind, va_recv hK hP (ci := 2) (q0 := 1) rfl (wd_at (by decide) rfl), fun U hU hW => ⟨rfl, by rw [hU]; exact hP, va_K.moved hW.alike hK, hN.warm hW⟩⟩ rfl rfl hl.1 rfl (lv_room (Nat.le_of_ble_eq_true rfl)) d_NF_clear_12 ⟨Nat.le_of_ble_eq_true rfl, Nat.le_of_ble_eq_true rfl⟩) hS (fun q _ h => h) (fun q h => h) (fun s2 t H locs ht0 hvm hq hB hz1 hk1 hS => ?_)
  obtain ⟨hP, -, -⟩ := hB
  rw [ht0] at hP
  refine lv_iload_n hx hb d_NF_clear_15 rfl (lv_at hl 0 rfl) ?_
  exact W.iret hx hb hr (fun t ht hW => ⟨⟨(gI σ 8), s2, rfl, hq, by rw [ht]; exact hP, va_K.moved hW.alike hK, hN.warm hW⟩, hS.F ht⟩) hS.2.2 d_NF_clear_16
