def wp_NF_isBelow (p1 : Int32) (p2 : Int32) (σ : CS) (Q : Int32 → CS → Prop) : Prop := ((p1 < 0 → Q 0 σ) ∧ (¬ p1 < 0 → ((p2 ≤ p1 → Q 0 σ) ∧ (¬ p2 ≤ p1 → Q 1 σ))))
set_option maxHeartbeats 4000000 in
set_option maxRecDepth 100000 in
theorem c_NF_isBelow {l : Launch} {D : va_G} {cs : CI} {ad : Nat → Nat} (hi : aI ad 51) {p1 : Int32} {p2 : Int32} {σ : CS} {Q : Int32 → CS → Prop} (hq : wp_NF_isBelow p1 p2 σ Q) : Met l y_NF_isBelow (.code y_NF_isBelow b_NF_isBelow 2 (some .boolean) :: wC) ({ frames := 0, cells := 0, slots := 0, locals := 0 }) (va_Pc [.int p1, .int p2] (cP D cs ad σ)) (va_Qi Q (cP D cs ad) (aK ad 51)) 0 0 (aK ad 51) := by
  refine Met.ofW (cc := b_NF_isBelow) (maxL := 2) (ret := (some .boolean)) (by decide) rfl ?_
  intro p e s m args below meth c s₁ B hml hv
  obtain ⟨rfl, hP, hK, hN⟩ := hv
  have hx := B.exec
  have hb := B.bytes
  have hr := B.returns
  have hts := atoms_spec (ws := .code y_NF_isBelow b_NF_isBelow 2 (some .boolean) :: wC) B.pre
  have ht : ∀ w ∈ wC, w.before _ s = true := fun w h => hts w (List.mem_cons_of_mem _ h)
  have hown : s.vm.findClass R_NF = some m.cls := findClass_of_methodNamed B.named
  have hlocks := B.notSynchronized
  have hS : va_S (aK ad 51) s.heap s.heap [] := va_S.rf
  have hl := lv_entry ([.int p1, .int p2]) (n := 2) (Nat.le_of_ble_eq_true rfl)
  rw [lg_entry_eq]
  generalize (lg_sl ([.int p1, .int p2]) ++ List.replicate (2 - (lg_sl ([.int p1, .int p2])).length) Slot.unset).toArray = ls at hl ⊢
  have hl : lv_has ls 2 [(0, .int p1), (1, .int p2)] := hl
  unfold wp_NF_isBelow at hq
  have hh8 : 8 < 9 := by decide
  refine lv_iload_n hx hb d_NF_isBelow_0 rfl (lv_at hl 0 rfl) ?_
  refine lv_if_lt (tgt := 13) hx hb d_NF_isBelow_1 (by decide) (fun c1 => ?_) (fun c1 => ?_)
  · have hq := hq.1 c1
    refine lv_iconst (v := 0) hx hb d_NF_isBelow_13 (by decide) ?_
    exact W.zret hx hb hr rfl (fun t ht hW => ⟨⟨0, σ, rfl, hq, by rw [ht]; exact hP, va_K.moved hW.alike hK, hN.warm hW⟩, hS.F ht⟩) hS.2.2 d_NF_isBelow_14
  · have hq := hq.2 c1
    refine lv_iload_n hx hb d_NF_isBelow_4 rfl (lv_at hl 0 rfl) ?_
    refine lv_iload_n hx hb d_NF_isBelow_5 rfl (lv_at hl 1 rfl) ?_
    refine lv_icmp_ge (tgt := 13) hx hb d_NF_isBelow_6 (by decide) (fun c2 => ?_) (fun c2 => ?_)
    · have hq := hq.1 c2
      refine lv_iconst (v := 0) hx hb d_NF_isBelow_13 (by decide) ?_
      exact W.zret hx hb hr rfl (fun t ht hW => ⟨⟨0, σ, rfl, hq, by rw [ht]; exact hP, va_K.moved hW.alike hK, hN.warm hW⟩, hS.F ht⟩) hS.2.2 d_NF_isBelow_14
    · have hq := hq.2 c2
      refine lv_iconst (v := 1) hx hb d_NF_isBelow_9 (by decide) ?_
      refine lv_goto (tgt := 14) hx hb d_NF_isBelow_10 (by decide) ?_
      exact W.zret hx hb hr rfl (fun t ht hW => ⟨⟨1, σ, rfl, hq, by rw [ht]; exact hP, va_K.moved hW.alike hK, hN.warm hW⟩, hS.F ht⟩) hS.2.2 d_NF_isBelow_14
def wp_NF_areBounds (p1 : Int32) (p2 : Int32) (σ : CS) (Q : Int32 → CS → Prop) : Prop := ((p1 < (-9) → Q 0 σ) ∧ (¬ p1 < (-9) → ((9 < p2 → Q 0 σ) ∧ (¬ 9 < p2 → ((p2 < p1 → Q 0 σ) ∧ (¬ p2 < p1 → ((5 ≤ (p2 - p1) → Q 0 σ) ∧ (¬ 5 ≤ (p2 - p1) → Q 1 σ))))))))
set_option maxHeartbeats 4000000 in
set_option maxRecDepth 100000 in
theorem c_NF_areBounds {l : Launch} {D : va_G} {cs : CI} {ad : Nat → Nat} (hi : aI ad 51) {p1 : Int32} {p2 : Int32} {σ : CS} {Q : Int32 → CS → Prop} (hq : wp_NF_areBounds p1 p2 σ Q) : Met l y_NF_areBounds (.code y_NF_areBounds b_NF_areBounds 2 (some .boolean) :: wC) ({ frames := 0, cells := 0, slots := 0, locals := 0 }) (va_Pc [.int p1, .int p2] (cP D cs ad σ)) (va_Qi Q (cP D cs ad) (aK ad 51)) 0 0 (aK ad 51) := by
  refine Met.ofW (cc := b_NF_areBounds) (maxL := 2) (ret := (some .boolean)) (by decide) rfl ?_
  intro p e s m args below meth c s₁ B hml hv
  obtain ⟨rfl, hP, hK, hN⟩ := hv
  have hx := B.exec
  have hb := B.bytes
  have hr := B.returns
  have hts := atoms_spec (ws := .code y_NF_areBounds b_NF_areBounds 2 (some .boolean) :: wC) B.pre
  have ht : ∀ w ∈ wC, w.before _ s = true := fun w h => hts w (List.mem_cons_of_mem _ h)
  have hown : s.vm.findClass R_NF = some m.cls := findClass_of_methodNamed B.named
  have hlocks := B.notSynchronized
  have hS : va_S (aK ad 51) s.heap s.heap [] := va_S.rf
  have hl := lv_entry ([.int p1, .int p2]) (n := 2) (Nat.le_of_ble_eq_true rfl)
  rw [lg_entry_eq]
  generalize (lg_sl ([.int p1, .int p2]) ++ List.replicate (2 - (lg_sl ([.int p1, .int p2])).length) Slot.unset).toArray = ls at hl ⊢
  have hl : lv_has ls 2 [(0, .int p1), (1, .int p2)] := hl
  unfold wp_NF_areBounds at hq
  have hh8 : 8 < 9 := by decide
  refine lv_iload_n hx hb d_NF_areBounds_0 rfl (lv_at hl 0 rfl) ?_
  refine lv_bipush (v := (-9)) hx hb d_NF_areBounds_1 (by decide) ?_
  refine lv_icmp_lt (tgt := 28) hx hb d_NF_areBounds_3 (by decide) (fun c1 => ?_) (fun c1 => ?_)
  · have hq := hq.1 c1
    refine lv_iconst (v := 0) hx hb d_NF_areBounds_28 (by decide) ?_
    exact W.zret hx hb hr rfl (fun t ht hW => ⟨⟨0, σ, rfl, hq, by rw [ht]; exact hP, va_K.moved hW.alike hK, hN.warm hW⟩, hS.F ht⟩) hS.2.2 d_NF_areBounds_29
  · have hq := hq.2 c1
    refine lv_iload_n hx hb d_NF_areBounds_6 rfl (lv_at hl 1 rfl) ?_
    refine lv_bipush (v := 9) hx hb d_NF_areBounds_7 (by decide) ?_
    refine lv_icmp_gt (tgt := 28) hx hb d_NF_areBounds_9 (by decide) (fun c2 => ?_) (fun c2 => ?_)
    · have hq := hq.1 c2
      refine lv_iconst (v := 0) hx hb d_NF_areBounds_28 (by decide) ?_
      exact W.zret hx hb hr rfl (fun t ht hW => ⟨⟨0, σ, rfl, hq, by rw [ht]; exact hP, va_K.moved hW.alike hK, hN.warm hW⟩, hS.F ht⟩) hS.2.2 d_NF_areBounds_29
    · have hq := hq.2 c2
      refine lv_iload_n hx hb d_NF_areBounds_12 rfl (lv_at hl 0 rfl) ?_
      refine lv_iload_n hx hb d_NF_areBounds_13 rfl (lv_at hl 1 rfl) ?_
      refine lv_icmp_gt (tgt := 28) hx hb d_NF_areBounds_14 (by decide) (fun c3 => ?_) (fun c3 => ?_)
      · have hq := hq.1 c3
        refine lv_iconst (v := 0) hx hb d_NF_areBounds_28 (by decide) ?_
        exact W.zret hx hb hr rfl (fun t ht hW => ⟨⟨0, σ, rfl, hq, by rw [ht]; exact hP, va_K.moved hW.alike hK, hN.warm hW⟩, hS.F ht⟩) hS.2.2 d_NF_areBounds_29
      · have hq := hq.2 c3
        refine lv_iload_n hx hb d_NF_areBounds_17 rfl (lv_at hl 1 rfl) ?_
        refine lv_iload_n hx hb d_NF_areBounds_18 rfl (lv_at hl 0 rfl) ?_
        refine lv_isub hx hb d_NF_areBounds_19 ?_
        refine lv_iconst (v := 5) hx hb d_NF_areBounds_20 (by decide) ?_
        refine lv_icmp_ge (tgt := 28) hx hb d_NF_areBounds_21 (by decide) (fun c4 => ?_) (fun c4 => ?_)
        · have hq := hq.1 c4
          refine lv_iconst (v := 0) hx hb d_NF_areBounds_28 (by decide) ?_
          exact W.zret hx hb hr rfl (fun t ht hW => ⟨⟨0, σ, rfl, hq, by rw [ht]; exact hP, va_K.moved hW.alike hK, hN.warm hW⟩, hS.F ht⟩) hS.2.2 d_NF_areBounds_29
        · have hq := hq.2 c4
          refine lv_iconst (v := 1) hx hb d_NF_areBounds_24 (by decide) ?_
          refine lv_goto (tgt := 29) hx hb d_NF_areBounds_25 (by decide) ?_
          exact W.zret hx hb hr rfl (fun t ht hW => ⟨⟨1, σ, rfl, hq, by rw [ht]; exact hP, va_K.moved hW.alike hK, hN.warm hW⟩, hS.F ht⟩) hS.2.2 d_NF_areBounds_29
def wp_NF_isWithinSize (p1 : UInt64) (σ : CS) (Q : Int32 → CS → Prop) : Prop := (((Op.cmpValue (FP.dcmp p1 13965043853221167104) .l) < 0 → Q 0 σ) ∧ (¬ (Op.cmpValue (FP.dcmp p1 13965043853221167104) .l) < 0 → ((0 < (Op.cmpValue (FP.dcmp p1 4741671816366391296) .g) → Q 0 σ) ∧ (¬ 0 < (Op.cmpValue (FP.dcmp p1 4741671816366391296) .g) → Q 1 σ))))
set_option maxHeartbeats 4000000 in
set_option maxRecDepth 100000 in
theorem c_NF_isWithinSize {l : Launch} {D : va_G} {cs : CI} {ad : Nat → Nat} (hi : aI ad 51) {p1 : UInt64} {σ : CS} {Q : Int32 → CS → Prop} (hq : wp_NF_isWithinSize p1 σ Q) : Met l y_NF_isWithinSize (.code y_NF_isWithinSize b_NF_isWithinSize 2 (some .boolean) :: wC) ({ frames := 0, cells := 0, slots := 0, locals := 0 }) (va_Pc [.double p1] (cP D cs ad σ)) (va_Qi Q (cP D cs ad) (aK ad 51)) 0 0 (aK ad 51) := by
  refine Met.ofW (cc := b_NF_isWithinSize) (maxL := 2) (ret := (some .boolean)) (by decide) rfl ?_
  intro p e s m args below meth c s₁ B hml hv
  obtain ⟨rfl, hP, hK, hN⟩ := hv
  have hx := B.exec
  have hb := B.bytes
  have hr := B.returns
  have hts := atoms_spec (ws := .code y_NF_isWithinSize b_NF_isWithinSize 2 (some .boolean) :: wC) B.pre
  have ht : ∀ w ∈ wC, w.before _ s = true := fun w h => hts w (List.mem_cons_of_mem _ h)
  have hown : s.vm.findClass R_NF = some m.cls := findClass_of_methodNamed B.named
  have hlocks := B.notSynchronized
  have hS : va_S (aK ad 51) s.heap s.heap [] := va_S.rf
  have hl := lv_entry ([.double p1]) (n := 2) (Nat.le_of_ble_eq_true rfl)
  rw [lg_entry_eq]
  generalize (lg_sl ([.double p1]) ++ List.replicate (2 - (lg_sl ([.double p1])).length) Slot.unset).toArray = ls at hl ⊢
  have hl : lv_has ls 2 [(0, .double p1)] := hl
  unfold wp_NF_isWithinSize at hq
  have hh8 : 8 < 9 := by decide
  refine lv_dload_n hx hb d_NF_isWithinSize_0 rfl (lv_at hl 0 rfl) ?_
  refine lv_ldc2d hx hb hown (ht _ wC_412) d_NF_isWithinSize_1 ?_
  refine lv_dcmp hx hb d_NF_isWithinSize_4 ?_
  refine lv_if_lt (tgt := 20) hx hb d_NF_isWithinSize_5 (by decide) (fun c1 => ?_) (fun c1 => ?_)
  · have hq := hq.1 c1
    refine lv_iconst (v := 0) hx hb d_NF_isWithinSize_20 (by decide) ?_
    exact W.zret hx hb hr rfl (fun t ht hW => ⟨⟨0, σ, rfl, hq, by rw [ht]; exact hP, va_K.moved hW.alike hK, hN.warm hW⟩, hS.F ht⟩) hS.2.2 d_NF_isWithinSize_21
  · have hq := hq.2 c1
    refine lv_dload_n hx hb d_NF_isWithinSize_8 rfl (lv_at hl 0 rfl) ?_
    refine lv_ldc2d hx hb hown (ht _ wC_413) d_NF_isWithinSize_9 ?_
    refine lv_dcmp hx hb d_NF_isWithinSize_12 ?_
    refine lv_if_gt (tgt := 20) hx hb d_NF_isWithinSize_13 (by decide) (fun c2 => ?_) (fun c2 => ?_)
    · have hq := hq.1 c2
      refine lv_iconst (v := 0) hx hb d_NF_isWithinSize_20 (by decide) ?_
      exact W.zret hx hb hr rfl (fun t ht hW => ⟨⟨0, σ, rfl, hq, by rw [ht]; exact hP, va_K.moved hW.alike hK, hN.warm hW⟩, hS.F ht⟩) hS.2.2 d_NF_isWithinSize_21
    · have hq := hq.2 c2
      refine lv_iconst (v := 1) hx hb d_NF_isWithinSize_16 (by decide) ?_
      refine lv_goto (tgt := 21) hx hb d_NF_isWithinSize_17 (by decide) ?_
      exact W.zret hx hb hr rfl (fun t ht hW => ⟨⟨1, σ, rfl, hq, by rw [ht]; exact hP, va_K.moved hW.alike hK, hN.warm hW⟩, hS.F ht⟩) hS.2.2 d_NF_isWithinSize_21
def wp_NF_rounded (p1 : UInt64) (σ : CS) (Q : Int64 → CS → Prop) : Prop := (vf_n64 (FP.dadd p1 4602678819172646912) ∧ (((Op.cmpValue (FP.dcmp (FP.l2d (FP.d2l (FP.dadd p1 4602678819172646912))) (FP.dadd p1 4602678819172646912)) .l) ≤ 0 → Q (FP.d2l (FP.dadd p1 4602678819172646912)) σ) ∧ (¬ (Op.cmpValue (FP.dcmp (FP.l2d (FP.d2l (FP.dadd p1 4602678819172646912))) (FP.dadd p1 4602678819172646912)) .l) ≤ 0 → Q ((FP.d2l (FP.dadd p1 4602678819172646912)) - 1) σ)))
set_option maxHeartbeats 4000000 in
set_option maxRecDepth 100000 in
theorem c_NF_rounded {l : Launch} {D : va_G} {cs : CI} {ad : Nat → Nat} (hi : aI ad 51) {p1 : UInt64} {σ : CS} {Q : Int64 → CS → Prop} (hq : wp_NF_rounded p1 σ Q) : Met l y_NF_rounded (.code y_NF_rounded b_NF_rounded 6 (some .long) :: wC) ({ frames := 0, cells := 0, slots := 0, locals := 0 }) (va_Pc [.double p1] (cP D cs ad σ)) (va_Ql Q (cP D cs ad) (aK ad 51)) 0 0 (aK ad 51) := by
  refine Met.ofW (cc := b_NF_rounded) (maxL := 6) (ret := (some .long)) (by decide) rfl ?_
  intro p e s m args below meth c s₁ B hml hv
  obtain ⟨rfl, hP, hK, hN⟩ := hv
  have hx := B.exec
  have hb := B.bytes
  have hr := B.returns
  have hts := atoms_spec (ws := .code y_NF_rounded b_NF_rounded 6 (some .long) :: wC) B.pre
  have ht : ∀ w ∈ wC, w.before _ s = true := fun w h => hts w (List.mem_cons_of_mem _ h)
  have hown : s.vm.findClass R_NF = some m.cls := findClass_of_methodNamed B.named
  have hlocks := B.notSynchronized
  have hS : va_S (aK ad 51) s.heap s.heap [] := va_S.rf
  have hl := lv_entry ([.double p1]) (n := 6) (Nat.le_of_ble_eq_true rfl)
  rw [lg_entry_eq]
  generalize (lg_sl ([.double p1]) ++ List.replicate (6 - (lg_sl ([.double p1])).length) Slot.unset).toArray = ls at hl ⊢
  have hl : lv_has ls 6 [(0, .double p1)] := hl
  unfold wp_NF_rounded at hq
  have hh8 : 8 < 9 := by decide
  refine lv_dload_n hx hb d_NF_rounded_0 rfl (lv_at hl 0 rfl) ?_
  refine lv_ldc2d hx hb hown (ht _ wC_422) d_NF_rounded_1 ?_
  refine lv_dadd hx hb d_NF_rounded_4 hq.1 ?_
  have hq := hq.2
  refine lv_dstore_n (lv' := [(2, .double (FP.dadd p1 4602678819172646912)), (0, .double p1)]) hx hb d_NF_rounded_5 rfl hl (by decide) rfl (fun ls hl => ?_)
  refine lv_dload_n hx hb d_NF_rounded_6 rfl (lv_at hl 0 rfl) ?_
  refine lv_d2l hx hb d_NF_rounded_7 ?_
  refine lv_lstore (lv' := [(4, .long (FP.d2l (FP.dadd p1 4602678819172646912))), (2, .double (FP.dadd p1 4602678819172646912)), (0, .double p1)]) hx hb d_NF_rounded_8 hl (by decide) rfl (fun ls hl => ?_)
  refine lv_lload hx hb d_NF_rounded_10 (lv_at hl 0 rfl) ?_
  refine lv_l2d hx hb d_NF_rounded_12 ?_
  refine lv_dload_n hx hb d_NF_rounded_13 rfl (lv_at hl 1 rfl) ?_
  refine lv_dcmp hx hb d_NF_rounded_14 ?_
  refine lv_if_le (tgt := 25) hx hb d_NF_rounded_15 (by decide) (fun c1 => ?_) (fun c1 => ?_)
  · have hq := hq.1 c1
    refine lv_lload hx hb d_NF_rounded_25 (lv_at hl 0 rfl) ?_
    exact W.lret hx hb hr (fun t ht hW => ⟨⟨(FP.d2l (FP.dadd p1 4602678819172646912)), σ, rfl, hq, by rw [ht]; exact hP, va_K.moved hW.alike hK, hN.warm hW⟩, hS.F ht⟩) hS.2.2 d_NF_rounded_27
  · have hq := hq.2 c1
    refine lv_lload hx hb d_NF_rounded_18 (lv_at hl 0 rfl) ?_
    refine lv_lconst (v := 1) hx hb d_NF_rounded_20 (by decide) ?_
    refine lv_lsub hx hb d_NF_rounded_21 ?_
    refine lv_goto (tgt := 27) hx hb d_NF_rounded_22 (by decide) ?_
    exact W.lret hx hb hr (fun t ht hW => ⟨⟨((FP.d2l (FP.dadd p1 4602678819172646912)) - 1), σ, rfl, hq, by rw [ht]; exact hP, va_K.moved hW.alike hK, hN.warm hW⟩, hS.F ht⟩) hS.2.2 d_NF_rounded_27
def wp_PR_has (p1 : Int32) (σ : CS) (Q : Int32 → CS → Prop) : Prop := (wp_NF_isBelow p1 (gI σ 8) σ (fun r1 s2 => (vp_z r1 ∧ Q r1 s2)))
set_option maxHeartbeats 4000000 in
set_option maxRecDepth 100000 in
theorem c_PR_has {l : Launch} {D : va_G} {cs : CI} {ad : Nat → Nat} (hi : aI ad 51) {p1 : Int32} {σ : CS} {Q : Int32 → CS → Prop} (hq : wp_PR_has p1 σ Q) : Met l y_PR_has (.code y_PR_has b_PR_has 2 (some .boolean) :: wC) ({ frames := 1, cells := 0, slots := 0, locals := 21 }) (va_Pc [.ref (ad 1), .int p1] (cP D cs ad σ)) (va_Qi Q (cP D cs ad) (aK ad 51)) 0 0 (aK ad 51) := by
  refine Met.ofW (cc := b_PR_has) (maxL := 2) (ret := (some .boolean)) (by decide) rfl ?_
  intro p e s m args below meth c s₁ B hml hv
  obtain ⟨rfl, hP, hK, hN⟩ := hv
  have hx := B.exec
  have hb := B.bytes
  have hr := B.returns
  have hts := atoms_spec (ws := .code y_PR_has b_PR_has 2 (some .boolean) :: wC) B.pre
  have ht : ∀ w ∈ wC, w.before _ s = true := fun w h => hts w (List.mem_cons_of_mem _ h)
  have hown : s.vm.findClass R_PR = some m.cls := findClass_of_methodNamed B.named
  have hlocks := B.notSynchronized
  have hS : va_S (aK ad 51) s.heap s.heap [] := va_S.rf
  have hl := lv_entry ([.ref (ad 1), .int p1]) (n := 2) (Nat.le_of_ble_eq_true rfl)
  rw [lg_entry_eq]
  generalize (lg_sl ([.ref (ad 1), .int p1]) ++ List.replicate (2 - (lg_sl ([.ref (ad 1), .int p1])).length) Slot.unset).toArray = ls at hl ⊢
  have hl : lv_has ls 2 [(0, .ref (ad 1)), (1, .int p1)] := hl
  unfold wp_PR_has at hq
  have hh8 : 8 < 9 := by decide
  refine lv_iload_n hx hb d_PR_has_0 rfl (lv_at hl 1 rfl) ?_
  refine lv_aload_n hx hb d_PR_has_1 rfl (lv_at hl 0 rfl) ?_
  refine cw_get (C := R_PR) (T := F_PR) (N := 8) (v := .int (gI σ 8)) hx hb hts (in_PR _) hown hK hP 1 (by decide) rfl rfl 4 (by decide) (ht _ wC_90) rfl d_PR_has_2 ?_
  refine va_calli (va_runSN (As := [.int p1, .int (gI σ 8)]) (rest := []) ⟨hx, hb, hml, hown, hts⟩ (c_NF_isBelow (D := D) (cs := cs) hi hq) (⟨va_cnB 2 hts (good_C wC_260) rfl rfl rfl (hN _ wN_258) (ht _ wC_44) (by decide +kernel) ⟨(show 0 + 1 ≤ 1 by omega), (show 8 + (2 + 11) + 0 ≤ 21 by omega)⟩, (ht _ wC_259), trivial⟩) ⟨cP_blind, fun U hU hW => ⟨rfl, by rw [hU]; exact hP, va_K.moved hW.alike hK, hN.warm hW⟩⟩ rfl rfl hl.1 rfl (lv_room (Nat.le_of_ble_eq_true rfl)) d_PR_has_5 ⟨Nat.le_of_ble_eq_true rfl, Nat.le_of_ble_eq_true rfl⟩) hS (fun q _ h => h) (fun q h => h) (fun r1 s2 t H locs ht0 hvm hq hB hz1 hk1 hS => ?_)
  obtain ⟨hP, -, -⟩ := hB
  rw [ht0] at hP
  exact W.zret hx hb hr hq.1 (fun t ht hW => ⟨⟨r1, s2, rfl, hq.2, by rw [ht]; exact hP, va_K.moved hW.alike hK, hN.warm hW⟩, hS.F ht⟩) hS.2.2 d_PR_has_8
def wp_PR_fits (p1 : Int32) (p2 : Int32) (σ : CS) (Q : Int32 → CS → Prop) : Prop := ((p2 = (-3) → ((p1 = (-1) → Q 1 σ) ∧ (¬ p1 = (-1) → (wp_PR_has p1 σ (fun r3 s4 => ((r3 = 0 → Q 0 s4) ∧ (¬ r3 = 0 → Q 1 s4))))))) ∧ (¬ p2 = (-3) → ((p2 = (-2) → (wp_PR_has p1 σ (fun r7 s8 => (vp_z r7 ∧ Q r7 s8)))) ∧ (¬ p2 = (-2) → ((p2 = (-1) → Q 1 σ) ∧ (¬ p2 = (-1) → ((p2 = 0 → Q 1 σ) ∧ (¬ p2 = 0 → (wp_NF_isBelow p1 p2 σ (fun r11 s12 => (vp_z r11 ∧ Q r11 s12)))))))))))
set_option maxHeartbeats 4000000 in
set_option maxRecDepth 100000 in
theorem c_PR_fits {l : Launch} {D : va_G} {cs : CI} {ad : Nat → Nat} (hi : aI ad 51) {p1 : Int32} {p2 : Int32} {σ : CS} {Q : Int32 → CS → Prop} (hq : wp_PR_fits p1 p2 σ Q) : Met l y_PR_fits (.code y_PR_fits b_PR_fits 3 (some .boolean) :: wC) ({ frames := 2, cells := 0, slots := 0, locals := 42 }) (va_Pc [.ref (ad 1), .int p1, .int p2] (cP D cs ad σ)) (va_Qi Q (cP D cs ad) (aK ad 51)) 0 0 (aK ad 51) := by
  refine Met.ofW (cc := b_PR_fits) (maxL := 3) (ret := (some .boolean)) (by decide) rfl ?_
  intro p e s m args below meth c s₁ B hml hv
  obtain ⟨rfl, hP, hK, hN⟩ := hv
  have hx := B.exec
  have hb := B.bytes
  have hr := B.returns
  have hts := atoms_spec (ws := .code y_PR_fits b_PR_fits 3 (some .boolean) :: wC) B.pre
  have ht : ∀ w ∈ wC, w.before _ s = true := fun w h => hts w (List.mem_cons_of_mem _ h)
  have hown : s.vm.findClass R_PR = some m.cls := findClass_of_methodNamed B.named
  have hlocks := B.notSynchronized
  have hS : va_S (aK ad 51) s.heap s.heap [] := va_S.rf
  have hl := lv_entry ([.ref (ad 1), .int p1, .int p2]) (n := 3) (Nat.le_of_ble_eq_true rfl)
  rw [lg_entry_eq]
  generalize (lg_sl ([.ref (ad 1), .int p1, .int p2]) ++ List.replicate (3 - (lg_sl ([.ref (ad 1), .int p1, .int p2])).length) Slot.unset).toArray = ls at hl ⊢
  have hl : lv_has ls 3 [(0, .ref (ad 1)), (1, .int p1), (2, .int p2)] := hl
  unfold wp_PR_fits at hq
  have hh8 : 8 < 9 := by decide
  refine lv_iload_n hx hb d_PR_fits_0 rfl (lv_at hl 2 rfl) ?_
  by_cases c1 : p2 = (-3)
  · have hq := hq.1 c1
    refine lv_tableIn (tgt := 40) hx hb d_PR_fits_1 (by rw [c1]; decide) (by rw [c1]; decide) (by rw [c1]; rfl) (by decide) ?_
    refine lv_iload_n hx hb d_PR_fits_40 rfl (lv_at hl 1 rfl) ?_
    refine lv_iconst (v := (-1)) hx hb d_PR_fits_41 (by decide) ?_
    refine lv_icmp_eq (tgt := 53) hx hb d_PR_fits_42 (by decide) (fun c2 => ?_) (fun c2 => ?_)
    · have hq := hq.1 c2
      refine lv_iconst (v := 1) hx hb d_PR_fits_53 (by decide) ?_
      refine lv_goto (tgt := 58) hx hb d_PR_fits_54 (by decide) ?_
      exact W.zret hx hb hr rfl (fun t ht hW => ⟨⟨1, σ, rfl, hq, by rw [ht]; exact hP, va_K.moved hW.alike hK, hN.warm hW⟩, hS.F ht⟩) hS.2.2 d_PR_fits_58
    · have hq := hq.2 c2
      refine lv_aload_n hx hb d_PR_fits_45 rfl (lv_at hl 0 rfl) ?_
      refine lv_iload_n hx hb d_PR_fits_46 rfl (lv_at hl 1 rfl) ?_
      refine va_calli (va_runV (As := [.int p1]) (rest := []) ⟨hx, hb, hml, hown, hts⟩ (c_PR_has (D := D) (cs := cs) hi hq) (cwV 1 hts (good_V wC_267 wC_268 wC_269 wC_45 wC_270) rfl rfl rfl (by decide +kernel) ⟨(show 1 + 1 ≤ 2 by omega), (show 8 + (2 + 11) + 21 ≤ 42 by omega)⟩) ⟨cP_blind, va_recv hK hP (ci := 2) (q0 := 1) rfl (wd_at (by decide) rfl), fun U hU hW => ⟨rfl, by rw [hU]; exact hP, va_K.moved hW.alike hK, hN.warm hW⟩⟩ rfl rfl hl.1 rfl (lv_room (Nat.le_of_ble_eq_true rfl)) d_PR_fits_47 ⟨Nat.le_of_ble_eq_true rfl, Nat.le_of_ble_eq_true rfl⟩) hS (fun q _ h => h) (fun q h => h) (fun r3 s4 t H locs ht0 hvm hq hB hz1 hk1 hS => ?_)
      obtain ⟨hP, -, -⟩ := hB
      rw [ht0] at hP
      refine lv_if_eq (tgt := 57) hx hb d_PR_fits_50 (by decide) (fun c5 => ?_) (fun c5 => ?_)
      · have hq := hq.1 c5
        refine lv_iconst (v := 0) hx hb d_PR_fits_57 (by decide) ?_
        exact W.zret hx hb hr rfl (fun t ht hW => ⟨⟨0, s4, rfl, hq, by rw [ht]; exact hP, va_K.moved hW.alike hK, hN.warm hW⟩, hS.F ht⟩) hS.2.2 d_PR_fits_58
      · have hq := hq.2 c5
        refine lv_iconst (v := 1) hx hb d_PR_fits_53 (by decide) ?_
        refine lv_goto (tgt := 58) hx hb d_PR_fits_54 (by decide) ?_
        exact W.zret hx hb hr rfl (fun t ht hW => ⟨⟨1, s4, rfl, hq, by rw [ht]; exact hP, va_K.moved hW.alike hK, hN.warm hW⟩, hS.F ht⟩) hS.2.2 d_PR_fits_58
  have hq := hq.2 c1
  by_cases c6 : p2 = (-2)
  · have hq := hq.1 c6
    refine lv_tableIn (tgt := 34) hx hb d_PR_fits_1 (by rw [c6]; decide) (by rw [c6]; decide) (by rw [c6]; rfl) (by decide) ?_
    refine lv_aload_n hx hb d_PR_fits_34 rfl (lv_at hl 0 rfl) ?_
    refine lv_iload_n hx hb d_PR_fits_35 rfl (lv_at hl 1 rfl) ?_
    refine va_calli (va_runV (As := [.int p1]) (rest := []) ⟨hx, hb, hml, hown, hts⟩ (c_PR_has (D := D) (cs := cs) hi hq) (cwV 1 hts (good_V wC_267 wC_268 wC_269 wC_45 wC_270) rfl rfl rfl (by decide +kernel) ⟨(show 1 + 1 ≤ 2 by omega), (show 8 + (2 + 11) + 21 ≤ 42 by omega)⟩) ⟨cP_blind, va_recv hK hP (ci := 2) (q0 := 1) rfl (wd_at (by decide) rfl), fun U hU hW => ⟨rfl, by rw [hU]; exact hP, va_K.moved hW.alike hK, hN.warm hW⟩⟩ rfl rfl hl.1 rfl (lv_room (Nat.le_of_ble_eq_true rfl)) d_PR_fits_36 ⟨Nat.le_of_ble_eq_true rfl, Nat.le_of_ble_eq_true rfl⟩) hS (fun q _ h => h) (fun q h => h) (fun r7 s8 t H locs ht0 hvm hq hB hz1 hk1 hS => ?_)
    obtain ⟨hP, -, -⟩ := hB
    rw [ht0] at hP
    exact W.zret hx hb hr hq.1 (fun t ht hW => ⟨⟨r7, s8, rfl, hq.2, by rw [ht]; exact hP, va_K.moved hW.alike hK, hN.warm hW⟩, hS.F ht⟩) hS.2.2 d_PR_fits_39
  have hq := hq.2 c6
  by_cases c9 : p2 = (-1)
  · have hq := hq.1 c9
    refine lv_tableIn (tgt := 32) hx hb d_PR_fits_1 (by rw [c9]; decide) (by rw [c9]; decide) (by rw [c9]; rfl) (by decide) ?_
    refine lv_iconst (v := 1) hx hb d_PR_fits_32 (by decide) ?_
    exact W.zret hx hb hr rfl (fun t ht hW => ⟨⟨1, σ, rfl, hq, by rw [ht]; exact hP, va_K.moved hW.alike hK, hN.warm hW⟩, hS.F ht⟩) hS.2.2 d_PR_fits_33
  have hq := hq.2 c9
  by_cases c10 : p2 = 0
  · have hq := hq.1 c10
    refine lv_tableIn (tgt := 32) hx hb d_PR_fits_1 (by rw [c10]; decide) (by rw [c10]; decide) (by rw [c10]; rfl) (by decide) ?_
    refine lv_iconst (v := 1) hx hb d_PR_fits_32 (by decide) ?_
    exact W.zret hx hb hr rfl (fun t ht hW => ⟨⟨1, σ, rfl, hq, by rw [ht]; exact hP, va_K.moved hW.alike hK, hN.warm hW⟩, hS.F ht⟩) hS.2.2 d_PR_fits_33
  have hq := hq.2 c10
  refine cw_tabD (tgt := 59) hx hb d_PR_fits_1 (by decide) ?_ ?_
  · have e_c1 := lv_neT c1 (a := -3) rfl; have e_c6 := lv_neT c6 (a := -2) rfl; have e_c9 := lv_neT c9 (a := -1) rfl; have e_c10 := lv_neT c10 (a := 0) rfl
    have g3 : p2.toInt < -3 ∨ 0 < p2.toInt := by omega
    exact g3.elim Or.inl (fun g => Or.inr (Or.inl g))
  refine lv_iload_n hx hb d_PR_fits_59 rfl (lv_at hl 1 rfl) ?_
  refine lv_iload_n hx hb d_PR_fits_60 rfl (lv_at hl 2 rfl) ?_
  refine va_calli (va_runSN (As := [.int p1, .int p2]) (rest := []) ⟨hx, hb, hml, hown, hts⟩ (c_NF_isBelow (D := D) (cs := cs) hi hq) (⟨va_cnB 2 hts (good_C wC_260) rfl rfl rfl (hN _ wN_258) (ht _ wC_44) (by decide +kernel) ⟨(show 0 + 1 ≤ 2 by omega), (show 8 + (2 + 11) + 0 ≤ 42 by omega)⟩, (ht _ wC_259), trivial⟩) ⟨cP_blind, fun U hU hW => ⟨rfl, by rw [hU]; exact hP, va_K.moved hW.alike hK, hN.warm hW⟩⟩ rfl rfl hl.1 rfl (lv_room (Nat.le_of_ble_eq_true rfl)) d_PR_fits_61 ⟨Nat.le_of_ble_eq_true rfl, Nat.le_of_ble_eq_true rfl⟩) hS (fun q _ h => h) (fun q h => h) (fun r11 s12 t H locs ht0 hvm hq hB hz1 hk1 hS => ?_)
  obtain ⟨hP, -, -⟩ := hB
  rw [ht0] at hP
  exact W.zret hx hb hr hq.1 (fun t ht hW => ⟨⟨r11, s12, rfl, hq.2, by rw [ht]; exact hP, va_K.moved hW.alike hK, hN.warm hW⟩, hS.F ht⟩) hS.2.2 d_PR_fits_64
def wp_PR_define (p1 : Int32) (p2 : Int32) (p3 : Int32) (p4 : Int32) (σ : CS) (Q : CS → Prop) : Prop := (vp_in p1 4 ∧ (∀ s1 : CS, s1 = sA σ 4 (upd (gA σ 4) p1.toNatClampNeg p2) → (vp_in p1 4 ∧ (∀ s2 : CS, s2 = sA s1 5 (upd (gA s1 5) p1.toNatClampNeg p3) → (vp_in p1 4 ∧ (∀ s3 : CS, s3 = sA s2 6 (upd (gA s2 6) p1.toNatClampNeg p4) → Q s3))))))
set_option maxHeartbeats 4000000 in
set_option maxRecDepth 100000 in
theorem c_PR_define {l : Launch} {D : va_G} {cs : CI} {ad : Nat → Nat} (hi : aI ad 51) {p1 : Int32} {p2 : Int32} {p3 : Int32} {p4 : Int32} {σ : CS} {Q : CS → Prop} (hq : wp_PR_define p1 p2 p3 p4 σ Q) : Met l y_PR_define (.code y_PR_define b_PR_define 5 none :: wC) ({ frames := 0, cells := 0, slots := 0, locals := 0 }) (va_Pc [.ref (ad 1), .int p1, .int p2, .int p3, .int p4] (cP D cs ad σ)) (va_Qv Q (cP D cs ad) (aK ad 51)) 0 0 (aK ad 51) := by
  refine Met.ofW (cc := b_PR_define) (maxL := 5) (ret := none) (by decide) rfl ?_
  intro p e s m args below meth c s₁ B hml hv
  obtain ⟨rfl, hP, hK, hN⟩ := hv
  have hx := B.exec
  have hb := B.bytes
  have hr := B.returns
  have hts := atoms_spec (ws := .code y_PR_define b_PR_define 5 none :: wC) B.pre
  have ht : ∀ w ∈ wC, w.before _ s = true := fun w h => hts w (List.mem_cons_of_mem _ h)
  have hown : s.vm.findClass R_PR = some m.cls := findClass_of_methodNamed B.named
  have hlocks := B.notSynchronized
  have hS : va_S (aK ad 51) s.heap s.heap [] := va_S.rf
  have hl := lv_entry ([.ref (ad 1), .int p1, .int p2, .int p3, .int p4]) (n := 5) (Nat.le_of_ble_eq_true rfl)
  rw [lg_entry_eq]
  generalize (lg_sl ([.ref (ad 1), .int p1, .int p2, .int p3, .int p4]) ++ List.replicate (5 - (lg_sl ([.ref (ad 1), .int p1, .int p2, .int p3, .int p4])).length) Slot.unset).toArray = ls at hl ⊢
  have hl : lv_has ls 5 [(0, .ref (ad 1)), (1, .int p1), (2, .int p2), (3, .int p3), (4, .int p4)] := hl
  unfold wp_PR_define at hq
  have hh8 : 8 < 9 := by decide
  refine lv_aload_n hx hb d_PR_define_0 rfl (lv_at hl 0 rfl) ?_
  refine cw_get (C := R_PR) (T := F_PR) (N := 8) (v := .ref (ad 6)) hx hb hts (in_PR _) hown hK hP 1 (by decide) rfl rfl 5 (by decide) (ht _ wC_92) rfl d_PR_define_1 ?_
  refine lv_iload_n hx hb d_PR_define_4 rfl (lv_at hl 1 rfl) ?_
  refine lv_iload_n hx hb d_PR_define_5 rfl (lv_at hl 2 rfl) ?_
  refine cw_iast hx hb hK hP hi hS 6 (by decide) rfl 0 rfl hq.1 upa_4 d_PR_define_6 (fun H locs hP hS => ?_)
  have hq := hq.2
  obtain ⟨s1, e_s1⟩ : ∃ z, z = sA σ 4 (upd (gA σ 4) p1.toNatClampNeg p2) := ⟨_, rfl⟩
  rw [← e_s1] at hP
  have hq := hq s1 e_s1
  refine lv_aload_n hx hb d_PR_define_7 rfl (lv_at hl 0 rfl) ?_
  refine cw_get (C := R_PR) (T := F_PR) (N := 8) (v := .ref (ad 7)) hx hb hts (in_PR _) hown hK hP 1 (by decide) rfl rfl 6 (by decide) (ht _ wC_94) rfl d_PR_define_8 ?_
  refine lv_iload_n hx hb d_PR_define_11 rfl (lv_at hl 1 rfl) ?_
  refine lv_iload_n hx hb d_PR_define_12 rfl (lv_at hl 3 rfl) ?_
  refine cw_iast hx hb hK hP hi hS 7 (by decide) rfl 0 rfl hq.1 upa_5 d_PR_define_13 (fun H locs hP hS => ?_)
  have hq := hq.2
  obtain ⟨s2, e_s2⟩ : ∃ z, z = sA s1 5 (upd (gA s1 5) p1.toNatClampNeg p3) := ⟨_, rfl⟩
  rw [← e_s2] at hP
  have hq := hq s2 e_s2
  refine lv_aload_n hx hb d_PR_define_14 rfl (lv_at hl 0 rfl) ?_
  refine cw_get (C := R_PR) (T := F_PR) (N := 8) (v := .ref (ad 8)) hx hb hts (in_PR _) hown hK hP 1 (by decide) rfl rfl 7 (by decide) (ht _ wC_96) rfl d_PR_define_15 ?_
  refine lv_iload_n hx hb d_PR_define_18 rfl (lv_at hl 1 rfl) ?_
  refine lv_iload hx hb d_PR_define_19 (lv_at hl 4 rfl) ?_
  refine cw_iast hx hb hK hP hi hS 8 (by decide) rfl 0 rfl hq.1 upa_6 d_PR_define_21 (fun H locs hP hS => ?_)
  have hq := hq.2
  obtain ⟨s3, e_s3⟩ : ∃ z, z = sA s2 6 (upd (gA s2 6) p1.toNatClampNeg p4) := ⟨_, rfl⟩
  rw [← e_s3] at hP
  have hq := hq s3 e_s3
  exact W.vret hx hb hr (fun t ht hW => ⟨⟨s3, rfl, hq, by rw [ht]; exact hP, va_K.moved hW.alike hK, hN.warm hW⟩, hS.F ht⟩) hS.2.2 d_PR_define_22
def wp_PR_canBeSet (p1 : Int32) (σ : CS) (Q : Int32 → CS → Prop) : Prop := (vp_in p1 48 ∧ (((gA σ 0 p1.toNatClampNeg) = 1 → Q 1 σ) ∧ (¬ (gA σ 0 p1.toNatClampNeg) = 1 → (((gA σ 0 p1.toNatClampNeg) = 2 → Q 1 σ) ∧ (¬ (gA σ 0 p1.toNatClampNeg) = 2 → (((gA σ 0 p1.toNatClampNeg) = 11 → Q 1 σ) ∧ (¬ (gA σ 0 p1.toNatClampNeg) = 11 → (((gA σ 0 p1.toNatClampNeg) = 10 → Q 1 σ) ∧ (¬ (gA σ 0 p1.toNatClampNeg) = 10 → Q 0 σ)))))))))
set_option maxHeartbeats 4000000 in
set_option maxRecDepth 100000 in
theorem c_PR_canBeSet {l : Launch} {D : va_G} {cs : CI} {ad : Nat → Nat} (hi : aI ad 51) {p1 : Int32} {σ : CS} {Q : Int32 → CS → Prop} (hq : wp_PR_canBeSet p1 σ Q) : Met l y_PR_canBeSet (.code y_PR_canBeSet b_PR_canBeSet 3 (some .boolean) :: wC) ({ frames := 0, cells := 0, slots := 0, locals := 0 }) (va_Pc [.ref (ad 1), .int p1] (cP D cs ad σ)) (va_Qi Q (cP D cs ad) (aK ad 51)) 0 0 (aK ad 51) := by
  refine Met.ofW (cc := b_PR_canBeSet) (maxL := 3) (ret := (some .boolean)) (by decide) rfl ?_
  intro p e s m args below meth c s₁ B hml hv
  obtain ⟨rfl, hP, hK, hN⟩ := hv
  have hx := B.exec
  have hb := B.bytes
  have hr := B.returns
  have hts := atoms_spec (ws := .code y_PR_canBeSet b_PR_canBeSet 3 (some .boolean) :: wC) B.pre
  have ht : ∀ w ∈ wC, w.before _ s = true := fun w h => hts w (List.mem_cons_of_mem _ h)
  have hown : s.vm.findClass R_PR = some m.cls := findClass_of_methodNamed B.named
  have hlocks := B.notSynchronized
  have hS : va_S (aK ad 51) s.heap s.heap [] := va_S.rf
  have hl := lv_entry ([.ref (ad 1), .int p1]) (n := 3) (Nat.le_of_ble_eq_true rfl)
  rw [lg_entry_eq]
  generalize (lg_sl ([.ref (ad 1), .int p1]) ++ List.replicate (3 - (lg_sl ([.ref (ad 1), .int p1])).length) Slot.unset).toArray = ls at hl ⊢
  have hl : lv_has ls 3 [(0, .ref (ad 1)), (1, .int p1)] := hl
  unfold wp_PR_canBeSet at hq
  have hh8 : 8 < 9 := by decide
  refine lv_aload_n hx hb d_PR_canBeSet_0 rfl (lv_at hl 0 rfl) ?_
  refine cw_get (C := R_PR) (T := F_PR) (N := 8) (v := .ref (ad 2)) hx hb hts (in_PR _) hown hK hP 1 (by decide) rfl rfl 0 (by decide) (ht _ wC_78) rfl d_PR_canBeSet_1 ?_
  refine lv_iload_n hx hb d_PR_canBeSet_4 rfl (lv_at hl 1 rfl) ?_
  refine cw_iald hx hb hK hP 2 (by decide) rfl 0 rfl hq.1 d_PR_canBeSet_5 ?_
  have hq := hq.2
  refine lv_istore_n (lv' := [(2, .int (gA σ 0 p1.toNatClampNeg)), (0, .ref (ad 1)), (1, .int p1)]) hx hb d_PR_canBeSet_6 rfl hl (by decide) rfl (fun ls hl => ?_)
  refine lv_iload_n hx hb d_PR_canBeSet_7 rfl (lv_at hl 0 rfl) ?_
  refine lv_iconst (v := 1) hx hb d_PR_canBeSet_8 (by decide) ?_
  refine lv_icmp_eq (tgt := 29) hx hb d_PR_canBeSet_9 (by decide) (fun c1 => ?_) (fun c1 => ?_)
  · have hq := hq.1 c1
    refine lv_iconst (v := 1) hx hb d_PR_canBeSet_29 (by decide) ?_
    refine lv_goto (tgt := 34) hx hb d_PR_canBeSet_30 (by decide) ?_
    exact W.zret hx hb hr rfl (fun t ht hW => ⟨⟨1, σ, rfl, hq, by rw [ht]; exact hP, va_K.moved hW.alike hK, hN.warm hW⟩, hS.F ht⟩) hS.2.2 d_PR_canBeSet_34
  · have hq := hq.2 c1
    refine lv_iload_n hx hb d_PR_canBeSet_12 rfl (lv_at hl 0 rfl) ?_
    refine lv_iconst (v := 2) hx hb d_PR_canBeSet_13 (by decide) ?_
    refine lv_icmp_eq (tgt := 29) hx hb d_PR_canBeSet_14 (by decide) (fun c2 => ?_) (fun c2 => ?_)
    · have hq := hq.1 c2
      refine lv_iconst (v := 1) hx hb d_PR_canBeSet_29 (by decide) ?_
      refine lv_goto (tgt := 34) hx hb d_PR_canBeSet_30 (by decide) ?_
      exact W.zret hx hb hr rfl (fun t ht hW => ⟨⟨1, σ, rfl, hq, by rw [ht]; exact hP, va_K.moved hW.alike hK, hN.warm hW⟩, hS.F ht⟩) hS.2.2 d_PR_canBeSet_34
    · have hq := hq.2 c2
      refine lv_iload_n hx hb d_PR_canBeSet_17 rfl (lv_at hl 0 rfl) ?_
      refine lv_bipush (v := 11) hx hb d_PR_canBeSet_18 (by decide) ?_
      refine lv_icmp_eq (tgt := 29) hx hb d_PR_canBeSet_20 (by decide) (fun c3 => ?_) (fun c3 => ?_)
      · have hq := hq.1 c3
        refine lv_iconst (v := 1) hx hb d_PR_canBeSet_29 (by decide) ?_
        refine lv_goto (tgt := 34) hx hb d_PR_canBeSet_30 (by decide) ?_
        exact W.zret hx hb hr rfl (fun t ht hW => ⟨⟨1, σ, rfl, hq, by rw [ht]; exact hP, va_K.moved hW.alike hK, hN.warm hW⟩, hS.F ht⟩) hS.2.2 d_PR_canBeSet_34
      · have hq := hq.2 c3
        refine lv_iload_n hx hb d_PR_canBeSet_23 rfl (lv_at hl 0 rfl) ?_
        refine lv_bipush (v := 10) hx hb d_PR_canBeSet_24 (by decide) ?_
        refine lv_icmp_ne (tgt := 33) hx hb d_PR_canBeSet_26 (by decide) (fun c4 => ?_) (fun c4 => ?_)
        · have hq := hq.2 c4
          refine lv_iconst (v := 0) hx hb d_PR_canBeSet_33 (by decide) ?_
          exact W.zret hx hb hr rfl (fun t ht hW => ⟨⟨0, σ, rfl, hq, by rw [ht]; exact hP, va_K.moved hW.alike hK, hN.warm hW⟩, hS.F ht⟩) hS.2.2 d_PR_canBeSet_34
        · have hq := hq.1 c4
          refine lv_iconst (v := 1) hx hb d_PR_canBeSet_29 (by decide) ?_
          refine lv_goto (tgt := 34) hx hb d_PR_canBeSet_30 (by decide) ?_
          exact W.zret hx hb hr rfl (fun t ht hW => ⟨⟨1, σ, rfl, hq, by rw [ht]; exact hP, va_K.moved hW.alike hK, hN.warm hW⟩, hS.F ht⟩) hS.2.2 d_PR_canBeSet_34
def wp_PR_canBeCalled (p1 : Int32) (σ : CS) (Q : Int32 → CS → Prop) : Prop := (vp_in p1 48 ∧ (vp_in (gA σ 1 p1.toNatClampNeg) 4 ∧ (((gA σ 4 ((gA σ 1 p1.toNatClampNeg).toNatClampNeg)) = (-1) → Q 0 σ) ∧ (¬ (gA σ 4 ((gA σ 1 p1.toNatClampNeg).toNatClampNeg)) = (-1) → (vp_in (gA σ 1 p1.toNatClampNeg) 4 ∧ (((gA σ 5 ((gA σ 1 p1.toNatClampNeg).toNatClampNeg)) < 1 → (vp_in (gA σ 1 p1.toNatClampNeg) 4 ∧ (((gA σ 5 ((gA σ 1 p1.toNatClampNeg).toNatClampNeg)) < 2 → Q 1 σ) ∧ (¬ (gA σ 5 ((gA σ 1 p1.toNatClampNeg).toNatClampNeg)) < 2 → (vp_in p1 48 ∧ (((gA σ 3 p1.toNatClampNeg) = (-1) → Q 0 σ) ∧ (¬ (gA σ 3 p1.toNatClampNeg) = (-1) → Q 1 σ))))))) ∧ (¬ (gA σ 5 ((gA σ 1 p1.toNatClampNeg).toNatClampNeg)) < 1 → (vp_in p1 48 ∧ (((gA σ 2 p1.toNatClampNeg) = (-1) → Q 0 σ) ∧ (¬ (gA σ 2 p1.toNatClampNeg) = (-1) → (vp_in (gA σ 1 p1.toNatClampNeg) 4 ∧ (((gA σ 5 ((gA σ 1 p1.toNatClampNeg).toNatClampNeg)) < 2 → Q 1 σ) ∧ (¬ (gA σ 5 ((gA σ 1 p1.toNatClampNeg).toNatClampNeg)) < 2 → (vp_in p1 48 ∧ (((gA σ 3 p1.toNatClampNeg) = (-1) → Q 0 σ) ∧ (¬ (gA σ 3 p1.toNatClampNeg) = (-1) → Q 1 σ))))))))))))))))
set_option maxHeartbeats 4000000 in
set_option maxRecDepth 100000 in
theorem c_PR_canBeCalled {l : Launch} {D : va_G} {cs : CI} {ad : Nat → Nat} (hi : aI ad 51) {p1 : Int32} {σ : CS} {Q : Int32 → CS → Prop} (hq : wp_PR_canBeCalled p1 σ Q) : Met l y_PR_canBeCalled (.code y_PR_canBeCalled b_PR_canBeCalled 3 (some .boolean) :: wC) ({ frames := 0, cells := 0, slots := 0, locals := 0 }) (va_Pc [.ref (ad 1), .int p1] (cP D cs ad σ)) (va_Qi Q (cP D cs ad) (aK ad 51)) 0 0 (aK ad 51) := by
  refine Met.ofW (cc := b_PR_canBeCalled) (maxL := 3) (ret := (some .boolean)) (by decide) rfl ?_
  intro p e s m args below meth c s₁ B hml hv
  obtain ⟨rfl, hP, hK, hN⟩ := hv
  have hx := B.exec
  have hb := B.bytes
  have hr := B.returns
  have hts := atoms_spec (ws := .code y_PR_canBeCalled b_PR_canBeCalled 3 (some .boolean) :: wC) B.pre
  have ht : ∀ w ∈ wC, w.before _ s = true := fun w h => hts w (List.mem_cons_of_mem _ h)
  have hown : s.vm.findClass R_PR = some m.cls := findClass_of_methodNamed B.named
  have hlocks := B.notSynchronized
  have hS : va_S (aK ad 51) s.heap s.heap [] := va_S.rf
  have hl := lv_entry ([.ref (ad 1), .int p1]) (n := 3) (Nat.le_of_ble_eq_true rfl)
  rw [lg_entry_eq]
  generalize (lg_sl ([.ref (ad 1), .int p1]) ++ List.replicate (3 - (lg_sl ([.ref (ad 1), .int p1])).length) Slot.unset).toArray = ls at hl ⊢
  have hl : lv_has ls 3 [(0, .ref (ad 1)), (1, .int p1)] := hl
  unfold wp_PR_canBeCalled at hq
  have hh8 : 8 < 9 := by decide
  refine lv_aload_n hx hb d_PR_canBeCalled_0 rfl (lv_at hl 0 rfl) ?_
  refine cw_get (C := R_PR) (T := F_PR) (N := 8) (v := .ref (ad 3)) hx hb hts (in_PR _) hown hK hP 1 (by decide) rfl rfl 1 (by decide) (ht _ wC_81) rfl d_PR_canBeCalled_1 ?_
  refine lv_iload_n hx hb d_PR_canBeCalled_4 rfl (lv_at hl 1 rfl) ?_
  refine cw_iald hx hb hK hP 3 (by decide) rfl 0 rfl hq.1 d_PR_canBeCalled_5 ?_
  have hq := hq.2
  refine lv_istore_n (lv' := [(2, .int (gA σ 1 p1.toNatClampNeg)), (0, .ref (ad 1)), (1, .int p1)]) hx hb d_PR_canBeCalled_6 rfl hl (by decide) rfl (fun ls hl => ?_)
  refine lv_aload_n hx hb d_PR_canBeCalled_7 rfl (lv_at hl 1 rfl) ?_
  refine cw_get (C := R_PR) (T := F_PR) (N := 8) (v := .ref (ad 6)) hx hb hts (in_PR _) hown hK hP 1 (by decide) rfl rfl 5 (by decide) (ht _ wC_92) rfl d_PR_canBeCalled_8 ?_
  refine lv_iload_n hx hb d_PR_canBeCalled_11 rfl (lv_at hl 0 rfl) ?_
  refine cw_iald hx hb hK hP 6 (by decide) rfl 0 rfl hq.1 d_PR_canBeCalled_12 ?_
  have hq := hq.2
  refine lv_iconst (v := (-1)) hx hb d_PR_canBeCalled_13 (by decide) ?_
  refine lv_icmp_eq (tgt := 61) hx hb d_PR_canBeCalled_14 (by decide) (fun c1 => ?_) (fun c1 => ?_)
  · have hq := hq.1 c1
    refine lv_iconst (v := 0) hx hb d_PR_canBeCalled_61 (by decide) ?_
    exact W.zret hx hb hr rfl (fun t ht hW => ⟨⟨0, σ, rfl, hq, by rw [ht]; exact hP, va_K.moved hW.alike hK, hN.warm hW⟩, hS.F ht⟩) hS.2.2 d_PR_canBeCalled_62
  · have hq := hq.2 c1
    refine lv_aload_n hx hb d_PR_canBeCalled_17 rfl (lv_at hl 1 rfl) ?_
    refine cw_get (C := R_PR) (T := F_PR) (N := 8) (v := .ref (ad 7)) hx hb hts (in_PR _) hown hK hP 1 (by decide) rfl rfl 6 (by decide) (ht _ wC_94) rfl d_PR_canBeCalled_18 ?_
    refine lv_iload_n hx hb d_PR_canBeCalled_21 rfl (lv_at hl 0 rfl) ?_
    refine cw_iald hx hb hK hP 7 (by decide) rfl 0 rfl hq.1 d_PR_canBeCalled_22 ?_
    have hq := hq.2
    refine lv_iconst (v := 1) hx hb d_PR_canBeCalled_23 (by decide) ?_
    refine lv_icmp_lt (tgt := 37) hx hb d_PR_canBeCalled_24 (by decide) (fun c2 => ?_) (fun c2 => ?_)
    · have hq := hq.1 c2
      refine lv_aload_n hx hb d_PR_canBeCalled_37 rfl (lv_at hl 1 rfl) ?_
      refine cw_get (C := R_PR) (T := F_PR) (N := 8) (v := .ref (ad 7)) hx hb hts (in_PR _) hown hK hP 1 (by decide) rfl rfl 6 (by decide) (ht _ wC_94) rfl d_PR_canBeCalled_38 ?_
      refine lv_iload_n hx hb d_PR_canBeCalled_41 rfl (lv_at hl 0 rfl) ?_
      refine cw_iald hx hb hK hP 7 (by decide) rfl 0 rfl hq.1 d_PR_canBeCalled_42 ?_
      have hq := hq.2
      refine lv_iconst (v := 2) hx hb d_PR_canBeCalled_43 (by decide) ?_
      refine lv_icmp_lt (tgt := 57) hx hb d_PR_canBeCalled_44 (by decide) (fun c3 => ?_) (fun c3 => ?_)
      · have hq := hq.1 c3
        refine lv_iconst (v := 1) hx hb d_PR_canBeCalled_57 (by decide) ?_
        refine lv_goto (tgt := 62) hx hb d_PR_canBeCalled_58 (by decide) ?_
        exact W.zret hx hb hr rfl (fun t ht hW => ⟨⟨1, σ, rfl, hq, by rw [ht]; exact hP, va_K.moved hW.alike hK, hN.warm hW⟩, hS.F ht⟩) hS.2.2 d_PR_canBeCalled_62
      · have hq := hq.2 c3
        refine lv_aload_n hx hb d_PR_canBeCalled_47 rfl (lv_at hl 1 rfl) ?_
        refine cw_get (C := R_PR) (T := F_PR) (N := 8) (v := .ref (ad 5)) hx hb hts (in_PR _) hown hK hP 1 (by decide) rfl rfl 3 (by decide) (ht _ wC_87) rfl d_PR_canBeCalled_48 ?_
        refine lv_iload_n hx hb d_PR_canBeCalled_51 rfl (lv_at hl 2 rfl) ?_
        refine cw_iald hx hb hK hP 5 (by decide) rfl 0 rfl hq.1 d_PR_canBeCalled_52 ?_
        have hq := hq.2
        refine lv_iconst (v := (-1)) hx hb d_PR_canBeCalled_53 (by decide) ?_
        refine lv_icmp_eq (tgt := 61) hx hb d_PR_canBeCalled_54 (by decide) (fun c4 => ?_) (fun c4 => ?_)
        · have hq := hq.1 c4
          refine lv_iconst (v := 0) hx hb d_PR_canBeCalled_61 (by decide) ?_
          exact W.zret hx hb hr rfl (fun t ht hW => ⟨⟨0, σ, rfl, hq, by rw [ht]; exact hP, va_K.moved hW.alike hK, hN.warm hW⟩, hS.F ht⟩) hS.2.2 d_PR_canBeCalled_62
        · have hq := hq.2 c4
          refine lv_iconst (v := 1) hx hb d_PR_canBeCalled_57 (by decide) ?_
          refine lv_goto (tgt := 62) hx hb d_PR_canBeCalled_58 (by decide) ?_
          exact W.zret hx hb hr rfl (fun t ht hW => ⟨⟨1, σ, rfl, hq, by rw [ht]; exact hP, va_K.moved hW.alike hK, hN.warm hW⟩, hS.F ht⟩) hS.2.2 d_PR_canBeCalled_62
    · have hq := hq.2 c2
      refine lv_aload_n hx hb d_PR_canBeCalled_27 rfl (lv_at hl 1 rfl) ?_
      refine cw_get (C := R_PR) (T := F_PR) (N := 8) (v := .ref (ad 4)) hx hb hts (in_PR _) hown hK hP 1 (by decide) rfl rfl 2 (by decide) (ht _ wC_84) rfl d_PR_canBeCalled_28 ?_
      refine lv_iload_n hx hb d_PR_canBeCalled_31 rfl (lv_at hl 2 rfl) ?_
      refine cw_iald hx hb hK hP 4 (by decide) rfl 0 rfl hq.1 d_PR_canBeCalled_32 ?_
      have hq := hq.2
      refine lv_iconst (v := (-1)) hx hb d_PR_canBeCalled_33 (by decide) ?_
      refine lv_icmp_eq (tgt := 61) hx hb d_PR_canBeCalled_34 (by decide) (fun c5 => ?_) (fun c5 => ?_)
      · have hq := hq.1 c5
        refine lv_iconst (v := 0) hx hb d_PR_canBeCalled_61 (by decide) ?_
        exact W.zret hx hb hr rfl (fun t ht hW => ⟨⟨0, σ, rfl, hq, by rw [ht]; exact hP, va_K.moved hW.alike hK, hN.warm hW⟩, hS.F ht⟩) hS.2.2 d_PR_canBeCalled_62
      · have hq := hq.2 c5
        refine lv_aload_n hx hb d_PR_canBeCalled_37 rfl (lv_at hl 1 rfl) ?_
        refine cw_get (C := R_PR) (T := F_PR) (N := 8) (v := .ref (ad 7)) hx hb hts (in_PR _) hown hK hP 1 (by decide) rfl rfl 6 (by decide) (ht _ wC_94) rfl d_PR_canBeCalled_38 ?_
        refine lv_iload_n hx hb d_PR_canBeCalled_41 rfl (lv_at hl 0 rfl) ?_
        refine cw_iald hx hb hK hP 7 (by decide) rfl 0 rfl hq.1 d_PR_canBeCalled_42 ?_
        have hq := hq.2
        refine lv_iconst (v := 2) hx hb d_PR_canBeCalled_43 (by decide) ?_
        refine lv_icmp_lt (tgt := 57) hx hb d_PR_canBeCalled_44 (by decide) (fun c6 => ?_) (fun c6 => ?_)
        · have hq := hq.1 c6
          refine lv_iconst (v := 1) hx hb d_PR_canBeCalled_57 (by decide) ?_
          refine lv_goto (tgt := 62) hx hb d_PR_canBeCalled_58 (by decide) ?_
          exact W.zret hx hb hr rfl (fun t ht hW => ⟨⟨1, σ, rfl, hq, by rw [ht]; exact hP, va_K.moved hW.alike hK, hN.warm hW⟩, hS.F ht⟩) hS.2.2 d_PR_canBeCalled_62
        · have hq := hq.2 c6
          refine lv_aload_n hx hb d_PR_canBeCalled_47 rfl (lv_at hl 1 rfl) ?_
          refine cw_get (C := R_PR) (T := F_PR) (N := 8) (v := .ref (ad 5)) hx hb hts (in_PR _) hown hK hP 1 (by decide) rfl rfl 3 (by decide) (ht _ wC_87) rfl d_PR_canBeCalled_48 ?_
          refine lv_iload_n hx hb d_PR_canBeCalled_51 rfl (lv_at hl 2 rfl) ?_
          refine cw_iald hx hb hK hP 5 (by decide) rfl 0 rfl hq.1 d_PR_canBeCalled_52 ?_
          have hq := hq.2
          refine lv_iconst (v := (-1)) hx hb d_PR_canBeCalled_53 (by decide) ?_
          refine lv_icmp_eq (tgt := 61) hx hb d_PR_canBeCalled_54 (by decide) (fun c7 => ?_) (fun c7 => ?_)
          · have hq := hq.1 c7
            refine lv_iconst (v := 0) hx hb d_PR_canBeCalled_61 (by decide) ?_
            exact W.zret hx hb hr rfl (fun t ht hW => ⟨⟨0, σ, rfl, hq, by rw [ht]; exact hP, va_K.moved hW.alike hK, hN.warm hW⟩, hS.F ht⟩) hS.2.2 d_PR_canBeCalled_62
          · have hq := hq.2 c7
            refine lv_iconst (v := 1) hx hb d_PR_canBeCalled_57 (by decide) ?_
            refine lv_goto (tgt := 62) hx hb d_PR_canBeCalled_58 (by decide) ?_
            exact W.zret hx hb hr rfl (fun t ht hW => ⟨⟨1, σ, rfl, hq, by rw [ht]; exact hP, va_K.moved hW.alike hK, hN.warm hW⟩, hS.F ht⟩) hS.2.2 d_PR_canBeCalled_62
def wp_PR_isByValue (p1 : Int32) (p2 : Int32) (σ : CS) (Q : Int32 → CS → Prop) : Prop := (vp_in p1 4 ∧ (((gA σ 5 p1.toNatClampNeg) ≤ p2 → Q 0 σ) ∧ (¬ (gA σ 5 p1.toNatClampNeg) ≤ p2 → (vp_in p1 4 ∧ (((((gA σ 6 p1.toNatClampNeg) >>> (p2 &&& 31)) &&& 1) = 0 → Q 1 σ) ∧ (¬ (((gA σ 6 p1.toNatClampNeg) >>> (p2 &&& 31)) &&& 1) = 0 → Q 0 σ))))))
set_option maxHeartbeats 4000000 in
set_option maxRecDepth 100000 in
theorem c_PR_isByValue {l : Launch} {D : va_G} {cs : CI} {ad : Nat → Nat} (hi : aI ad 51) {p1 : Int32} {p2 : Int32} {σ : CS} {Q : Int32 → CS → Prop} (hq : wp_PR_isByValue p1 p2 σ Q) : Met l y_PR_isByValue (.code y_PR_isByValue b_PR_isByValue 3 (some .boolean) :: wC) ({ frames := 0, cells := 0, slots := 0, locals := 0 }) (va_Pc [.ref (ad 1), .int p1, .int p2] (cP D cs ad σ)) (va_Qi Q (cP D cs ad) (aK ad 51)) 0 0 (aK ad 51) := by
  refine Met.ofW (cc := b_PR_isByValue) (maxL := 3) (ret := (some .boolean)) (by decide) rfl ?_
  intro p e s m args below meth c s₁ B hml hv
  obtain ⟨rfl, hP, hK, hN⟩ := hv
  have hx := B.exec
  have hb := B.bytes
  have hr := B.returns
  have hts := atoms_spec (ws := .code y_PR_isByValue b_PR_isByValue 3 (some .boolean) :: wC) B.pre
  have ht : ∀ w ∈ wC, w.before _ s = true := fun w h => hts w (List.mem_cons_of_mem _ h)
  have hown : s.vm.findClass R_PR = some m.cls := findClass_of_methodNamed B.named
  have hlocks := B.notSynchronized
  have hS : va_S (aK ad 51) s.heap s.heap [] := va_S.rf
  have hl := lv_entry ([.ref (ad 1), .int p1, .int p2]) (n := 3) (Nat.le_of_ble_eq_true rfl)
  rw [lg_entry_eq]
  generalize (lg_sl ([.ref (ad 1), .int p1, .int p2]) ++ List.replicate (3 - (lg_sl ([.ref (ad 1), .int p1, .int p2])).length) Slot.unset).toArray = ls at hl ⊢
  have hl : lv_has ls 3 [(0, .ref (ad 1)), (1, .int p1), (2, .int p2)] := hl
  unfold wp_PR_isByValue at hq
  have hh8 : 8 < 9 := by decide
  refine lv_iload_n hx hb d_PR_isByValue_0 rfl (lv_at hl 2 rfl) ?_
  refine lv_aload_n hx hb d_PR_isByValue_1 rfl (lv_at hl 0 rfl) ?_
  refine cw_get (C := R_PR) (T := F_PR) (N := 8) (v := .ref (ad 7)) hx hb hts (in_PR _) hown hK hP 1 (by decide) rfl rfl 6 (by decide) (ht _ wC_94) rfl d_PR_isByValue_2 ?_
  refine lv_iload_n hx hb d_PR_isByValue_5 rfl (lv_at hl 1 rfl) ?_
  refine cw_iald hx hb hK hP 7 (by decide) rfl 0 rfl hq.1 d_PR_isByValue_6 ?_
  have hq := hq.2
  refine lv_icmp_ge (tgt := 27) hx hb d_PR_isByValue_7 (by decide) (fun c1 => ?_) (fun c1 => ?_)
  · have hq := hq.1 c1
    refine lv_iconst (v := 0) hx hb d_PR_isByValue_27 (by decide) ?_
    exact W.zret hx hb hr rfl (fun t ht hW => ⟨⟨0, σ, rfl, hq, by rw [ht]; exact hP, va_K.moved hW.alike hK, hN.warm hW⟩, hS.F ht⟩) hS.2.2 d_PR_isByValue_28
  · have hq := hq.2 c1
    refine lv_aload_n hx hb d_PR_isByValue_10 rfl (lv_at hl 0 rfl) ?_
    refine cw_get (C := R_PR) (T := F_PR) (N := 8) (v := .ref (ad 8)) hx hb hts (in_PR _) hown hK hP 1 (by decide) rfl rfl 7 (by decide) (ht _ wC_96) rfl d_PR_isByValue_11 ?_
    refine lv_iload_n hx hb d_PR_isByValue_14 rfl (lv_at hl 1 rfl) ?_
    refine cw_iald hx hb hK hP 8 (by decide) rfl 0 rfl hq.1 d_PR_isByValue_15 ?_
    have hq := hq.2
    refine lv_iload_n hx hb d_PR_isByValue_16 rfl (lv_at hl 2 rfl) ?_
    refine lv_ishr hx hb d_PR_isByValue_17 ?_
    refine lv_iconst (v := 1) hx hb d_PR_isByValue_18 (by decide) ?_
    refine lv_iand hx hb d_PR_isByValue_19 ?_
    refine lv_if_ne (tgt := 27) hx hb d_PR_isByValue_20 (by decide) (fun c2 => ?_) (fun c2 => ?_)
    · have hq := hq.2 c2
      refine lv_iconst (v := 0) hx hb d_PR_isByValue_27 (by decide) ?_
      exact W.zret hx hb hr rfl (fun t ht hW => ⟨⟨0, σ, rfl, hq, by rw [ht]; exact hP, va_K.moved hW.alike hK, hN.warm hW⟩, hS.F ht⟩) hS.2.2 d_PR_isByValue_28
    · have hq := hq.1 c2
      refine lv_iconst (v := 1) hx hb d_PR_isByValue_23 (by decide) ?_
      refine lv_goto (tgt := 28) hx hb d_PR_isByValue_24 (by decide) ?_
      exact W.zret hx hb hr rfl (fun t ht hW => ⟨⟨1, σ, rfl, hq, by rw [ht]; exact hP, va_K.moved hW.alike hK, hN.warm hW⟩, hS.F ht⟩) hS.2.2 d_PR_isByValue_28
def wp_ST_size  (σ : CS) (Q : Int32 → CS → Prop) : Prop := Q ((((gI σ 10) - (gI σ 9)) + 1) * (((gI σ 12) - (gI σ 11)) + 1)) σ
set_option maxHeartbeats 4000000 in
set_option maxRecDepth 100000 in
theorem c_ST_size {l : Launch} {D : va_G} {cs : CI} {ad : Nat → Nat} (hi : aI ad 51)  {σ : CS} {Q : Int32 → CS → Prop} (hq : wp_ST_size  σ Q) : Met l y_ST_size (.code y_ST_size b_ST_size 1 (some .int) :: wC) ({ frames := 0, cells := 0, slots := 0, locals := 0 }) (va_Pc [.ref (ad 9)] (cP D cs ad σ)) (va_Qi Q (cP D cs ad) (aK ad 51)) 0 0 (aK ad 51) := by
  refine Met.ofW (cc := b_ST_size) (maxL := 1) (ret := (some .int)) (by decide) rfl ?_
  intro p e s m args below meth c s₁ B hml hv
  obtain ⟨rfl, hP, hK, hN⟩ := hv
  have hx := B.exec
  have hb := B.bytes
  have hr := B.returns
  have hts := atoms_spec (ws := .code y_ST_size b_ST_size 1 (some .int) :: wC) B.pre
  have ht : ∀ w ∈ wC, w.before _ s = true := fun w h => hts w (List.mem_cons_of_mem _ h)
  have hown : s.vm.findClass R_ST = some m.cls := findClass_of_methodNamed B.named
  have hlocks := B.notSynchronized
  have hS : va_S (aK ad 51) s.heap s.heap [] := va_S.rf
  have hl := lv_entry ([.ref (ad 9)]) (n := 1) (Nat.le_of_ble_eq_true rfl)
  rw [lg_entry_eq]
  generalize (lg_sl ([.ref (ad 9)]) ++ List.replicate (1 - (lg_sl ([.ref (ad 9)])).length) Slot.unset).toArray = ls at hl ⊢
  have hl : lv_has ls 1 [(0, .ref (ad 9))] := hl
  unfold wp_ST_size at hq
  have hh8 : 8 < 9 := by decide
  refine lv_aload_n hx hb d_ST_size_0 rfl (lv_at hl 0 rfl) ?_
  refine cw_get (C := R_ST) (T := F_ST) (N := 6) (v := .int (gI σ 10)) hx hb hts (in_ST _) hown hK hP 9 (by decide) rfl rfl 3 (by decide) (ht _ wC_129) rfl d_ST_size_1 ?_
  refine lv_aload_n hx hb d_ST_size_4 rfl (lv_at hl 0 rfl) ?_
  refine cw_get (C := R_ST) (T := F_ST) (N := 6) (v := .int (gI σ 9)) hx hb hts (in_ST _) hown hK hP 9 (by decide) rfl rfl 2 (by decide) (ht _ wC_128) rfl d_ST_size_5 ?_
  refine lv_isub hx hb d_ST_size_8 ?_
  refine lv_iconst (v := 1) hx hb d_ST_size_9 (by decide) ?_
  refine lv_iadd hx hb d_ST_size_10 ?_
  refine lv_aload_n hx hb d_ST_size_11 rfl (lv_at hl 0 rfl) ?_
  refine cw_get (C := R_ST) (T := F_ST) (N := 6) (v := .int (gI σ 12)) hx hb hts (in_ST _) hown hK hP 9 (by decide) rfl rfl 5 (by decide) (ht _ wC_131) rfl d_ST_size_12 ?_
  refine lv_aload_n hx hb d_ST_size_15 rfl (lv_at hl 0 rfl) ?_
  refine cw_get (C := R_ST) (T := F_ST) (N := 6) (v := .int (gI σ 11)) hx hb hts (in_ST _) hown hK hP 9 (by decide) rfl rfl 4 (by decide) (ht _ wC_130) rfl d_ST_size_16 ?_
  refine lv_isub hx hb d_ST_size_19 ?_
  refine lv_iconst (v := 1) hx hb d_ST_size_20 (by decide) ?_
  refine lv_iadd hx hb d_ST_size_21 ?_
  refine lv_imul hx hb d_ST_size_22 ?_
  exact W.iret hx hb hr (fun t ht hW => ⟨⟨((((gI σ 10) - (gI σ 9)) + 1) * (((gI σ 12) - (gI σ 11)) + 1)), σ, rfl, hq, by rw [ht]; exact hP, va_K.moved hW.alike hK, hN.warm hW⟩, hS.F ht⟩) hS.2.2 d_ST_size_23
def wp_ST_holds (p1 : Int64) (p2 : Int64) (σ : CS) (Q : Int32 → CS → Prop) : Prop := (((lg_cmp p1 ((gI σ 9).toInt64)) < 0 → Q 0 σ) ∧ (¬ (lg_cmp p1 ((gI σ 9).toInt64)) < 0 → ((0 < (lg_cmp p1 ((gI σ 10).toInt64)) → Q 0 σ) ∧ (¬ 0 < (lg_cmp p1 ((gI σ 10).toInt64)) → (((lg_cmp p2 ((gI σ 11).toInt64)) < 0 → Q 0 σ) ∧ (¬ (lg_cmp p2 ((gI σ 11).toInt64)) < 0 → ((0 < (lg_cmp p2 ((gI σ 12).toInt64)) → Q 0 σ) ∧ (¬ 0 < (lg_cmp p2 ((gI σ 12).toInt64)) → Q 1 σ))))))))
set_option maxHeartbeats 4000000 in
set_option maxRecDepth 100000 in
theorem c_ST_holds {l : Launch} {D : va_G} {cs : CI} {ad : Nat → Nat} (hi : aI ad 51) {p1 : Int64} {p2 : Int64} {σ : CS} {Q : Int32 → CS → Prop} (hq : wp_ST_holds p1 p2 σ Q) : Met l y_ST_holds (.code y_ST_holds b_ST_holds 5 (some .boolean) :: wC) ({ frames := 0, cells := 0, slots := 0, locals := 0 }) (va_Pc [.ref (ad 9), .long p1, .long p2] (cP D cs ad σ)) (va_Qi Q (cP D cs ad) (aK ad 51)) 0 0 (aK ad 51) := by
  refine Met.ofW (cc := b_ST_holds) (maxL := 5) (ret := (some .boolean)) (by decide) rfl ?_
  intro p e s m args below meth c s₁ B hml hv
  obtain ⟨rfl, hP, hK, hN⟩ := hv
  have hx := B.exec
  have hb := B.bytes
  have hr := B.returns
  have hts := atoms_spec (ws := .code y_ST_holds b_ST_holds 5 (some .boolean) :: wC) B.pre
  have ht : ∀ w ∈ wC, w.before _ s = true := fun w h => hts w (List.mem_cons_of_mem _ h)
  have hown : s.vm.findClass R_ST = some m.cls := findClass_of_methodNamed B.named
  have hlocks := B.notSynchronized
  have hS : va_S (aK ad 51) s.heap s.heap [] := va_S.rf
  have hl := lv_entry ([.ref (ad 9), .long p1, .long p2]) (n := 5) (Nat.le_of_ble_eq_true rfl)
  rw [lg_entry_eq]
  generalize (lg_sl ([.ref (ad 9), .long p1, .long p2]) ++ List.replicate (5 - (lg_sl ([.ref (ad 9), .long p1, .long p2])).length) Slot.unset).toArray = ls at hl ⊢
  have hl : lv_has ls 5 [(0, .ref (ad 9)), (1, .long p1), (3, .long p2)] := hl
  unfold wp_ST_holds at hq
  have hh8 : 8 < 9 := by decide
  refine lv_lload_n hx hb d_ST_holds_0 rfl (lv_at hl 1 rfl) ?_
  refine lv_aload_n hx hb d_ST_holds_1 rfl (lv_at hl 0 rfl) ?_
  refine cw_get (C := R_ST) (T := F_ST) (N := 6) (v := .int (gI σ 9)) hx hb hts (in_ST _) hown hK hP 9 (by decide) rfl rfl 2 (by decide) (ht _ wC_128) rfl d_ST_holds_2 ?_
  refine lv_i2l hx hb d_ST_holds_5 rfl ?_
  refine W.lcmp hx hb d_ST_holds_6 ?_
  refine lv_if_lt (tgt := 44) hx hb d_ST_holds_7 (by decide) (fun c1 => ?_) (fun c1 => ?_)
  · have hq := hq.1 c1
    refine lv_iconst (v := 0) hx hb d_ST_holds_44 (by decide) ?_
    exact W.zret hx hb hr rfl (fun t ht hW => ⟨⟨0, σ, rfl, hq, by rw [ht]; exact hP, va_K.moved hW.alike hK, hN.warm hW⟩, hS.F ht⟩) hS.2.2 d_ST_holds_45
  · have hq := hq.2 c1
    refine lv_lload_n hx hb d_ST_holds_10 rfl (lv_at hl 1 rfl) ?_
    refine lv_aload_n hx hb d_ST_holds_11 rfl (lv_at hl 0 rfl) ?_
    refine cw_get (C := R_ST) (T := F_ST) (N := 6) (v := .int (gI σ 10)) hx hb hts (in_ST _) hown hK hP 9 (by decide) rfl rfl 3 (by decide) (ht _ wC_129) rfl d_ST_holds_12 ?_
    refine lv_i2l hx hb d_ST_holds_15 rfl ?_
    refine W.lcmp hx hb d_ST_holds_16 ?_
    refine lv_if_gt (tgt := 44) hx hb d_ST_holds_17 (by decide) (fun c2 => ?_) (fun c2 => ?_)
    · have hq := hq.1 c2
      refine lv_iconst (v := 0) hx hb d_ST_holds_44 (by decide) ?_
      exact W.zret hx hb hr rfl (fun t ht hW => ⟨⟨0, σ, rfl, hq, by rw [ht]; exact hP, va_K.moved hW.alike hK, hN.warm hW⟩, hS.F ht⟩) hS.2.2 d_ST_holds_45
    · have hq := hq.2 c2
      refine lv_lload_n hx hb d_ST_holds_20 rfl (lv_at hl 2 rfl) ?_
      refine lv_aload_n hx hb d_ST_holds_21 rfl (lv_at hl 0 rfl) ?_
      refine cw_get (C := R_ST) (T := F_ST) (N := 6) (v := .int (gI σ 11)) hx hb hts (in_ST _) hown hK hP 9 (by decide) rfl rfl 4 (by decide) (ht _ wC_130) rfl d_ST_holds_22 ?_
      refine lv_i2l hx hb d_ST_holds_25 rfl ?_
      refine W.lcmp hx hb d_ST_holds_26 ?_
      refine lv_if_lt (tgt := 44) hx hb d_ST_holds_27 (by decide) (fun c3 => ?_) (fun c3 => ?_)
      · have hq := hq.1 c3
        refine lv_iconst (v := 0) hx hb d_ST_holds_44 (by decide) ?_
        exact W.zret hx hb hr rfl (fun t ht hW => ⟨⟨0, σ, rfl, hq, by rw [ht]; exact hP, va_K.moved hW.alike hK, hN.warm hW⟩, hS.F ht⟩) hS.2.2 d_ST_holds_45
      · have hq := hq.2 c3
        refine lv_lload_n hx hb d_ST_holds_30 rfl (lv_at hl 2 rfl) ?_
        refine lv_aload_n hx hb d_ST_holds_31 rfl (lv_at hl 0 rfl) ?_
        refine cw_get (C := R_ST) (T := F_ST) (N := 6) (v := .int (gI σ 12)) hx hb hts (in_ST _) hown hK hP 9 (by decide) rfl rfl 5 (by decide) (ht _ wC_131) rfl d_ST_holds_32 ?_
        refine lv_i2l hx hb d_ST_holds_35 rfl ?_
        refine W.lcmp hx hb d_ST_holds_36 ?_
        refine lv_if_gt (tgt := 44) hx hb d_ST_holds_37 (by decide) (fun c4 => ?_) (fun c4 => ?_)
        · have hq := hq.1 c4
          refine lv_iconst (v := 0) hx hb d_ST_holds_44 (by decide) ?_
          exact W.zret hx hb hr rfl (fun t ht hW => ⟨⟨0, σ, rfl, hq, by rw [ht]; exact hP, va_K.moved hW.alike hK, hN.warm hW⟩, hS.F ht⟩) hS.2.2 d_ST_holds_45
        · have hq := hq.2 c4
          refine lv_iconst (v := 1) hx hb d_ST_holds_40 (by decide) ?_
          refine lv_goto (tgt := 45) hx hb d_ST_holds_41 (by decide) ?_
          exact W.zret hx hb hr rfl (fun t ht hW => ⟨⟨1, σ, rfl, hq, by rw [ht]; exact hP, va_K.moved hW.alike hK, hN.warm hW⟩, hS.F ht⟩) hS.2.2 d_ST_holds_45
def wp_ST_place (p1 : Int64) (p2 : Int64) (σ : CS) (Q : Int32 → CS → Prop) : Prop := Q ((((p1 - ((gI σ 9).toInt64)).toInt32) * 5) + ((p2 - ((gI σ 11).toInt64)).toInt32)) σ
set_option maxHeartbeats 4000000 in
set_option maxRecDepth 100000 in
theorem c_ST_place {l : Launch} {D : va_G} {cs : CI} {ad : Nat → Nat} (hi : aI ad 51) {p1 : Int64} {p2 : Int64} {σ : CS} {Q : Int32 → CS → Prop} (hq : wp_ST_place p1 p2 σ Q) : Met l y_ST_place (.code y_ST_place b_ST_place 5 (some .int) :: wC) ({ frames := 0, cells := 0, slots := 0, locals := 0 }) (va_Pc [.ref (ad 9), .long p1, .long p2] (cP D cs ad σ)) (va_Qi Q (cP D cs ad) (aK ad 51)) 0 0 (aK ad 51) := by
  refine Met.ofW (cc := b_ST_place) (maxL := 5) (ret := (some .int)) (by decide) rfl ?_
  intro p e s m args below meth c s₁ B hml hv
  obtain ⟨rfl, hP, hK, hN⟩ := hv
  have hx := B.exec
  have hb := B.bytes
  have hr := B.returns
  have hts := atoms_spec (ws := .code y_ST_place b_ST_place 5 (some .int) :: wC) B.pre
  have ht : ∀ w ∈ wC, w.before _ s = true := fun w h => hts w (List.mem_cons_of_mem _ h)
  have hown : s.vm.findClass R_ST = some m.cls := findClass_of_methodNamed B.named
  have hlocks := B.notSynchronized
  have hS : va_S (aK ad 51) s.heap s.heap [] := va_S.rf
  have hl := lv_entry ([.ref (ad 9), .long p1, .long p2]) (n := 5) (Nat.le_of_ble_eq_true rfl)
  rw [lg_entry_eq]
  generalize (lg_sl ([.ref (ad 9), .long p1, .long p2]) ++ List.replicate (5 - (lg_sl ([.ref (ad 9), .long p1, .long p2])).length) Slot.unset).toArray = ls at hl ⊢
  have hl : lv_has ls 5 [(0, .ref (ad 9)), (1, .long p1), (3, .long p2)] := hl
  unfold wp_ST_place at hq
  have hh8 : 8 < 9 := by decide
  refine lv_lload_n hx hb d_ST_place_0 rfl (lv_at hl 1 rfl) ?_
  refine lv_aload_n hx hb d_ST_place_1 rfl (lv_at hl 0 rfl) ?_
  refine cw_get (C := R_ST) (T := F_ST) (N := 6) (v := .int (gI σ 9)) hx hb hts (in_ST _) hown hK hP 9 (by decide) rfl rfl 2 (by decide) (ht _ wC_128) rfl d_ST_place_2 ?_
  refine lv_i2l hx hb d_ST_place_5 rfl ?_
  refine lv_lsub hx hb d_ST_place_6 ?_
  refine lv_l2i hx hb d_ST_place_7 rfl ?_
  refine lv_iconst (v := 5) hx hb d_ST_place_8 (by decide) ?_
  refine lv_imul hx hb d_ST_place_9 ?_
  refine lv_lload_n hx hb d_ST_place_10 rfl (lv_at hl 2 rfl) ?_
  refine lv_aload_n hx hb d_ST_place_11 rfl (lv_at hl 0 rfl) ?_
  refine cw_get (C := R_ST) (T := F_ST) (N := 6) (v := .int (gI σ 11)) hx hb hts (in_ST _) hown hK hP 9 (by decide) rfl rfl 4 (by decide) (ht _ wC_130) rfl d_ST_place_12 ?_
  refine lv_i2l hx hb d_ST_place_15 rfl ?_
  refine lv_lsub hx hb d_ST_place_16 ?_
  refine lv_l2i hx hb d_ST_place_17 rfl ?_
  refine lv_iadd hx hb d_ST_place_18 ?_
  exact W.iret hx hb hr (fun t ht hW => ⟨⟨((((p1 - ((gI σ 9).toInt64)).toInt32) * 5) + ((p2 - ((gI σ 11).toInt64)).toInt32)), σ, rfl, hq, by rw [ht]; exact hP, va_K.moved hW.alike hK, hN.warm hW⟩, hS.F ht⟩) hS.2.2 d_ST_place_19
def wp_ST_assign (p1 : Int32) (p2 : UInt64) (σ : CS) (Q : UInt64 → CS → Prop) : Prop := ((4 ≤ p1 → (vp_in p1 8 ∧ (∀ s2 : CS, s2 = sD σ 0 (vf_upd (gD σ 0) p1.toNatClampNeg p2) → (vp_in p1 8 ∧ Q (gD s2 0 p1.toNatClampNeg) s2)))) ∧ (¬ 4 ≤ p1 → (wp_NF_rounded p2 σ (fun r3 s4 => (vp_in p1 8 ∧ (∀ s5 : CS, s5 = sD s4 0 (vf_upd (gD s4 0) p1.toNatClampNeg (FP.l2d r3)) → (vp_in p1 8 ∧ Q (gD s5 0 p1.toNatClampNeg) s5)))))))
set_option maxHeartbeats 4000000 in
set_option maxRecDepth 100000 in
theorem c_ST_assign {l : Launch} {D : va_G} {cs : CI} {ad : Nat → Nat} (hi : aI ad 51) {p1 : Int32} {p2 : UInt64} {σ : CS} {Q : UInt64 → CS → Prop} (hq : wp_ST_assign p1 p2 σ Q) : Met l y_ST_assign (.code y_ST_assign b_ST_assign 4 (some .double) :: wC) ({ frames := 1, cells := 0, slots := 0, locals := 25 }) (va_Pc [.ref (ad 9), .int p1, .double p2] (cP D cs ad σ)) (va_Qd Q (cP D cs ad) (aK ad 51)) 0 0 (aK ad 51) := by
  refine Met.ofW (cc := b_ST_assign) (maxL := 4) (ret := (some .double)) (by decide) rfl ?_
  intro p e s m args below meth c s₁ B hml hv
  obtain ⟨rfl, hP, hK, hN⟩ := hv
  have hx := B.exec
  have hb := B.bytes
  have hr := B.returns
  have hts := atoms_spec (ws := .code y_ST_assign b_ST_assign 4 (some .double) :: wC) B.pre
  have ht : ∀ w ∈ wC, w.before _ s = true := fun w h => hts w (List.mem_cons_of_mem _ h)
  have hown : s.vm.findClass R_ST = some m.cls := findClass_of_methodNamed B.named
  have hlocks := B.notSynchronized
  have hS : va_S (aK ad 51) s.heap s.heap [] := va_S.rf
  have hl := lv_entry ([.ref (ad 9), .int p1, .double p2]) (n := 4) (Nat.le_of_ble_eq_true rfl)
  rw [lg_entry_eq]
  generalize (lg_sl ([.ref (ad 9), .int p1, .double p2]) ++ List.replicate (4 - (lg_sl ([.ref (ad 9), .int p1, .double p2])).length) Slot.unset).toArray = ls at hl ⊢
  have hl : lv_has ls 4 [(0, .ref (ad 9)), (1, .int p1), (2, .double p2)] := hl
  unfold wp_ST_assign at hq
  have hh8 : 8 < 9 := by decide
  refine lv_aload_n hx hb d_ST_assign_0 rfl (lv_at hl 0 rfl) ?_
  refine cw_get (C := R_ST) (T := F_ST) (N := 6) (v := .ref (ad 10)) hx hb hts (in_ST _) hown hK hP 9 (by decide) rfl rfl 0 (by decide) (ht _ wC_122) rfl d_ST_assign_1 ?_
  refine lv_iload_n hx hb d_ST_assign_4 rfl (lv_at hl 1 rfl) ?_
  refine lv_iload_n hx hb d_ST_assign_5 rfl (lv_at hl 1 rfl) ?_
  refine lv_iconst (v := 4) hx hb d_ST_assign_6 (by decide) ?_
  refine lv_icmp_ge (tgt := 18) hx hb d_ST_assign_7 (by decide) (fun c1 => ?_) (fun c1 => ?_)
  · have hq := hq.1 c1
    refine lv_dload_n hx hb d_ST_assign_18 rfl (lv_at hl 2 rfl) ?_
    refine cw_dast hx hb hK hP hi hS 10 (by decide) rfl 1 rfl hq.1 upd_0 d_ST_assign_19 (fun H locs hP hS => ?_)
    have hq := hq.2
    obtain ⟨s2, e_s2⟩ : ∃ z, z = sD σ 0 (vf_upd (gD σ 0) p1.toNatClampNeg p2) := ⟨_, rfl⟩
    rw [← e_s2] at hP
    have hq := hq s2 e_s2
    refine lv_aload_n hx hb d_ST_assign_20 rfl (lv_at hl 0 rfl) ?_
    refine cw_get (C := R_ST) (T := F_ST) (N := 6) (v := .ref (ad 10)) hx hb hts (in_ST _) hown hK hP 9 (by decide) rfl rfl 0 (by decide) (ht _ wC_122) rfl d_ST_assign_21 ?_
    refine lv_iload_n hx hb d_ST_assign_24 rfl (lv_at hl 1 rfl) ?_
    refine cw_dald hx hb hK hP 10 (by decide) rfl 1 rfl hq.1 d_ST_assign_25 ?_
    have hq := hq.2
    exact W.dret hx hb hr (fun t ht hW => ⟨⟨(gD s2 0 p1.toNatClampNeg), s2, rfl, hq, by rw [ht]; exact hP, va_K.moved hW.alike hK, hN.warm hW⟩, hS.F ht⟩) hS.2.2 d_ST_assign_26
  · have hq := hq.2 c1
    refine lv_dload_n hx hb d_ST_assign_10 rfl (lv_at hl 2 rfl) ?_
    refine va_calll (va_runSN (As := [.double p2]) (rest := [.int p1, .ref (ad 10)]) ⟨hx, hb, hml, hown, hts⟩ (c_NF_rounded (D := D) (cs := cs) hi hq) (⟨va_cnB 1 hts (good_C wC_421) rfl rfl rfl (hN _ wN_419) (ht _ wC_44) (by decide +kernel) ⟨(show 0 + 1 ≤ 1 by omega), (show 8 + (6 + 11) + 0 ≤ 25 by omega)⟩, (ht _ wC_420), trivial⟩) ⟨cP_blind, fun U hU hW => ⟨rfl, by rw [hU]; exact hP, va_K.moved hW.alike hK, hN.warm hW⟩⟩ rfl rfl hl.1 rfl (lv_room (Nat.le_of_ble_eq_true rfl)) d_ST_assign_11 ⟨Nat.le_of_ble_eq_true rfl, Nat.le_of_ble_eq_true rfl⟩) hS (fun q _ h => h) (fun q h => h) (fun r3 s4 t H locs ht0 hvm hq hB hz1 hk1 hS => ?_)
    obtain ⟨hP, -, -⟩ := hB
    rw [ht0] at hP
    refine lv_l2d hx hb d_ST_assign_14 ?_
    refine lv_goto (tgt := 19) hx hb d_ST_assign_15 (by decide) ?_
    refine cw_dast hx hb hK hP hi hS 10 (by decide) rfl 1 rfl hq.1 upd_0 d_ST_assign_19 (fun H locs hP hS => ?_)
    have hq := hq.2
    obtain ⟨s5, e_s5⟩ : ∃ z, z = sD s4 0 (vf_upd (gD s4 0) p1.toNatClampNeg (FP.l2d r3)) := ⟨_, rfl⟩
    rw [← e_s5] at hP
    have hq := hq s5 e_s5
    refine lv_aload_n hx hb d_ST_assign_20 rfl (lv_at hl 0 rfl) ?_
    refine cw_get (C := R_ST) (T := F_ST) (N := 6) (v := .ref (ad 10)) hx hb hts (in_ST _) hown hK hP 9 (by decide) rfl rfl 0 (by decide) (ht _ wC_122) rfl d_ST_assign_21 ?_
    refine lv_iload_n hx hb d_ST_assign_24 rfl (lv_at hl 1 rfl) ?_
    refine cw_dald hx hb hK hP 10 (by decide) rfl 1 rfl hq.1 d_ST_assign_25 ?_
    have hq := hq.2
    exact W.dret hx hb hr (fun t ht hW => ⟨⟨(gD s5 0 p1.toNatClampNeg), s5, rfl, hq, by rw [ht]; exact hP, va_K.moved hW.alike hK, hN.warm hW⟩, hS.F ht⟩) hS.2.2 d_ST_assign_26
def wp_EN_give (h : Nat) (p1 : Int32) (p2 : Int32) (p3 : UInt64) (σ : CS) (Q : CS → Prop) : Prop := (h < 9 ∧ (vp_in p1 2 ∧ (∀ s1 : CS, s1 = sA σ (10 + h) (upd (gA σ (10 + h)) p1.toNatClampNeg p2) → (vp_in p1 2 ∧ (∀ s2 : CS, s2 = sD s1 (10 + h) (vf_upd (gD s1 (10 + h)) p1.toNatClampNeg p3) → Q s2)))))
set_option maxHeartbeats 4000000 in
set_option maxRecDepth 100000 in
theorem c_EN_give {l : Launch} {D : va_G} {cs : CI} {ad : Nat → Nat} (hi : aI ad 51) {h : Nat} {p1 : Int32} {p2 : Int32} {p3 : UInt64} {σ : CS} {Q : CS → Prop} (hq : wp_EN_give h p1 p2 p3 σ Q) : Met l y_EN_give (.code y_EN_give b_EN_give 5 none :: wC) ({ frames := 0, cells := 0, slots := 0, locals := 0 }) (va_Pc [.ref (ad (15 + h)), .int p1, .int p2, .double p3] (cP D cs ad σ)) (va_Qv Q (cP D cs ad) (aK ad 51)) 0 0 (aK ad 51) := by
  refine Met.ofW (cc := b_EN_give) (maxL := 5) (ret := none) (by decide) rfl ?_
  intro p e s m args below meth c s₁ B hml hv
  obtain ⟨rfl, hP, hK, hN⟩ := hv
  have hx := B.exec
  have hb := B.bytes
  have hr := B.returns
  have hts := atoms_spec (ws := .code y_EN_give b_EN_give 5 none :: wC) B.pre
  have ht : ∀ w ∈ wC, w.before _ s = true := fun w h => hts w (List.mem_cons_of_mem _ h)
  have hown : s.vm.findClass R_EN = some m.cls := findClass_of_methodNamed B.named
  have hlocks := B.notSynchronized
  have hS : va_S (aK ad 51) s.heap s.heap [] := va_S.rf
  have hl := lv_entry ([.ref (ad (15 + h)), .int p1, .int p2, .double p3]) (n := 5) (Nat.le_of_ble_eq_true rfl)
  rw [lg_entry_eq]
  generalize (lg_sl ([.ref (ad (15 + h)), .int p1, .int p2, .double p3]) ++ List.replicate (5 - (lg_sl ([.ref (ad (15 + h)), .int p1, .int p2, .double p3])).length) Slot.unset).toArray = ls at hl ⊢
  have hl : lv_has ls 5 [(0, .ref (ad (15 + h))), (1, .int p1), (2, .int p2), (3, .double p3)] := hl
  unfold wp_EN_give at hq
  have hh_h : h < 9 := hq.1
  have hq := hq.2
  have hh8 : 8 < 9 := by decide
  refine lv_aload_n hx hb d_EN_give_0 rfl (lv_at hl 0 rfl) ?_
  refine cw_get (C := R_EN) (T := F_EN) (N := 6) (v := .ref (ad (24 + h))) hx hb hts (in_EN _) hown hK hP (15 + h) (by omega) (ct_o hh_h) rfl 1 (by decide) (ht _ wC_160) rfl d_EN_give_1 ?_
  refine lv_iload_n hx hb d_EN_give_4 rfl (lv_at hl 1 rfl) ?_
  refine lv_iload_n hx hb d_EN_give_5 rfl (lv_at hl 2 rfl) ?_
  refine cw_iast hx hb hK hP hi hS (24 + h) (by omega) (ct_g hh_h) 0 rfl hq.1 (upa_10 hh_h) d_EN_give_6 (fun H locs hP hS => ?_)
  have hq := hq.2
  obtain ⟨s1, e_s1⟩ : ∃ z, z = sA σ (10 + h) (upd (gA σ (10 + h)) p1.toNatClampNeg p2) := ⟨_, rfl⟩
  rw [← e_s1] at hP
  have hq := hq s1 e_s1
  refine lv_aload_n hx hb d_EN_give_7 rfl (lv_at hl 0 rfl) ?_
  refine cw_get (C := R_EN) (T := F_EN) (N := 6) (v := .ref (ad (33 + h))) hx hb hts (in_EN _) hown hK hP (15 + h) (by omega) (ct_o hh_h) rfl 2 (by decide) (ht _ wC_162) rfl d_EN_give_8 ?_
  refine lv_iload_n hx hb d_EN_give_11 rfl (lv_at hl 1 rfl) ?_
  refine lv_dload_n hx hb d_EN_give_12 rfl (lv_at hl 3 rfl) ?_
  refine cw_dast hx hb hK hP hi hS (33 + h) (by omega) (ct_v hh_h) 1 rfl hq.1 (upd_10 hh_h) d_EN_give_13 (fun H locs hP hS => ?_)
  have hq := hq.2
  obtain ⟨s2, e_s2⟩ : ∃ z, z = sD s1 (10 + h) (vf_upd (gD s1 (10 + h)) p1.toNatClampNeg p3) := ⟨_, rfl⟩
  rw [← e_s2] at hP
  have hq := hq s2 e_s2
  exact W.vret hx hb hr (fun t ht hW => ⟨⟨s2, rfl, hq, by rw [ht]; exact hP, va_K.moved hW.alike hK, hN.warm hW⟩, hS.F ht⟩) hS.2.2 d_EN_give_14
def wp_EN_isByName (h : Nat) (p1 : Int32) (σ : CS) (Q : Int32 → CS → Prop) : Prop := (h < 9 ∧ (((((gI σ (30 + h)) >>> (p1 &&& 31)) &&& 1) = 1 → Q 1 σ) ∧ (¬ (((gI σ (30 + h)) >>> (p1 &&& 31)) &&& 1) = 1 → Q 0 σ)))
set_option maxHeartbeats 4000000 in
set_option maxRecDepth 100000 in
theorem c_EN_isByName {l : Launch} {D : va_G} {cs : CI} {ad : Nat → Nat} (hi : aI ad 51) {h : Nat} {p1 : Int32} {σ : CS} {Q : Int32 → CS → Prop} (hq : wp_EN_isByName h p1 σ Q) : Met l y_EN_isByName (.code y_EN_isByName b_EN_isByName 2 (some .boolean) :: wC) ({ frames := 0, cells := 0, slots := 0, locals := 0 }) (va_Pc [.ref (ad (15 + h)), .int p1] (cP D cs ad σ)) (va_Qi Q (cP D cs ad) (aK ad 51)) 0 0 (aK ad 51) := by
  refine Met.ofW (cc := b_EN_isByName) (maxL := 2) (ret := (some .boolean)) (by decide) rfl ?_
  intro p e s m args below meth c s₁ B hml hv
  obtain ⟨rfl, hP, hK, hN⟩ := hv
  have hx := B.exec
  have hb := B.bytes
  have hr := B.returns
  have hts := atoms_spec (ws := .code y_EN_isByName b_EN_isByName 2 (some .boolean) :: wC) B.pre
  have ht : ∀ w ∈ wC, w.before _ s = true := fun w h => hts w (List.mem_cons_of_mem _ h)
  have hown : s.vm.findClass R_EN = some m.cls := findClass_of_methodNamed B.named
  have hlocks := B.notSynchronized
  have hS : va_S (aK ad 51) s.heap s.heap [] := va_S.rf
  have hl := lv_entry ([.ref (ad (15 + h)), .int p1]) (n := 2) (Nat.le_of_ble_eq_true rfl)
  rw [lg_entry_eq]
  generalize (lg_sl ([.ref (ad (15 + h)), .int p1]) ++ List.replicate (2 - (lg_sl ([.ref (ad (15 + h)), .int p1])).length) Slot.unset).toArray = ls at hl ⊢
  have hl : lv_has ls 2 [(0, .ref (ad (15 + h))), (1, .int p1)] := hl
  unfold wp_EN_isByName at hq
  have hh_h : h < 9 := hq.1
  have hq := hq.2
  have hh8 : 8 < 9 := by decide
  refine lv_aload_n hx hb d_EN_isByName_0 rfl (lv_at hl 0 rfl) ?_
  refine cw_get (C := R_EN) (T := F_EN) (N := 6) (v := .int (gI σ (30 + h))) hx hb hts (in_EN _) hown hK hP (15 + h) (by omega) (ct_o hh_h) rfl 5 (by decide) (ht _ wC_167) rfl d_EN_isByName_1 ?_
  refine lv_iload_n hx hb d_EN_isByName_4 rfl (lv_at hl 1 rfl) ?_
  refine lv_ishr hx hb d_EN_isByName_5 ?_
  refine lv_iconst (v := 1) hx hb d_EN_isByName_6 (by decide) ?_
  refine lv_iand hx hb d_EN_isByName_7 ?_
  refine lv_iconst (v := 1) hx hb d_EN_isByName_8 (by decide) ?_
  refine lv_icmp_ne (tgt := 16) hx hb d_EN_isByName_9 (by decide) (fun c1 => ?_) (fun c1 => ?_)
  · have hq := hq.2 c1
    refine lv_iconst (v := 0) hx hb d_EN_isByName_16 (by decide) ?_
    exact W.zret hx hb hr rfl (fun t ht hW => ⟨⟨0, σ, rfl, hq, by rw [ht]; exact hP, va_K.moved hW.alike hK, hN.warm hW⟩, hS.F ht⟩) hS.2.2 d_EN_isByName_17
  · have hq := hq.1 c1
    refine lv_iconst (v := 1) hx hb d_EN_isByName_12 (by decide) ?_
    refine lv_goto (tgt := 17) hx hb d_EN_isByName_13 (by decide) ?_
    exact W.zret hx hb hr rfl (fun t ht hW => ⟨⟨1, σ, rfl, hq, by rw [ht]; exact hP, va_K.moved hW.alike hK, hN.warm hW⟩, hS.F ht⟩) hS.2.2 d_EN_isByName_17
def wp_EN_hasParameter (h : Nat) (p1 : Int32) (σ : CS) (Q : Int32 → CS → Prop) : Prop := (h < 9 ∧ ((gC σ h = none → Q 0 σ) ∧ (∀ k1 : Nat, gC σ h = some k1 → (((gI σ (20 + h)) ≤ p1 → Q 0 σ) ∧ (¬ (gI σ (20 + h)) ≤ p1 → Q 1 σ)))))
set_option maxHeartbeats 4000000 in
set_option maxRecDepth 100000 in
theorem c_EN_hasParameter {l : Launch} {D : va_G} {cs : CI} {ad : Nat → Nat} (hi : aI ad 51) {h : Nat} {p1 : Int32} {σ : CS} {Q : Int32 → CS → Prop} (hq : wp_EN_hasParameter h p1 σ Q) : Met l y_EN_hasParameter (.code y_EN_hasParameter b_EN_hasParameter 2 (some .boolean) :: wC) ({ frames := 0, cells := 0, slots := 0, locals := 0 }) (va_Pc [.ref (ad (15 + h)), .int p1] (cP D cs ad σ)) (va_Qi Q (cP D cs ad) (aK ad 51)) 0 0 (aK ad 51) := by
  refine Met.ofW (cc := b_EN_hasParameter) (maxL := 2) (ret := (some .boolean)) (by decide) rfl ?_
  intro p e s m args below meth c s₁ B hml hv
  obtain ⟨rfl, hP, hK, hN⟩ := hv
  have hx := B.exec
  have hb := B.bytes
  have hr := B.returns
  have hts := atoms_spec (ws := .code y_EN_hasParameter b_EN_hasParameter 2 (some .boolean) :: wC) B.pre
  have ht : ∀ w ∈ wC, w.before _ s = true := fun w h => hts w (List.mem_cons_of_mem _ h)
  have hown : s.vm.findClass R_EN = some m.cls := findClass_of_methodNamed B.named
  have hlocks := B.notSynchronized
  have hS : va_S (aK ad 51) s.heap s.heap [] := va_S.rf
  have hl := lv_entry ([.ref (ad (15 + h)), .int p1]) (n := 2) (Nat.le_of_ble_eq_true rfl)
  rw [lg_entry_eq]
  generalize (lg_sl ([.ref (ad (15 + h)), .int p1]) ++ List.replicate (2 - (lg_sl ([.ref (ad (15 + h)), .int p1])).length) Slot.unset).toArray = ls at hl ⊢
  have hl : lv_has ls 2 [(0, .ref (ad (15 + h))), (1, .int p1)] := hl
  unfold wp_EN_hasParameter at hq
  have hh_h : h < 9 := hq.1
  have hq := hq.2
  have hh8 : 8 < 9 := by decide
  refine lv_aload_n hx hb d_EN_hasParameter_0 rfl (lv_at hl 0 rfl) ?_
  refine cw_get (C := R_EN) (T := F_EN) (N := 6) (v := cv ad (gC σ h)) hx hb hts (in_EN _) hown hK hP (15 + h) (by omega) (ct_o hh_h) rfl 0 (by decide) (ht _ wC_158) rfl d_EN_hasParameter_1 ?_
  cases e2 : gC σ h with
  | none =>
    have hq := hq.1 e2
    rw [cv_none]
    refine lv_ifnullN (tgt := 19) hx hb d_EN_hasParameter_4 (by decide) ?_
    refine lv_iconst (v := 0) hx hb d_EN_hasParameter_19 (by decide) ?_
    exact W.zret hx hb hr rfl (fun t ht hW => ⟨⟨0, σ, rfl, hq, by rw [ht]; exact hP, va_K.moved hW.alike hK, hN.warm hW⟩, hS.F ht⟩) hS.2.2 d_EN_hasParameter_20
  | some k1 =>
    have hq := hq.2 k1 e2
    rw [cv_some]
    refine lv_ifnull hx hb d_EN_hasParameter_4 ?_
    refine lv_iload_n hx hb d_EN_hasParameter_7 rfl (lv_at hl 1 rfl) ?_
    refine lv_aload_n hx hb d_EN_hasParameter_8 rfl (lv_at hl 0 rfl) ?_
    refine cw_get (C := R_EN) (T := F_EN) (N := 6) (v := .int (gI σ (20 + h))) hx hb hts (in_EN _) hown hK hP (15 + h) (by omega) (ct_o hh_h) rfl 4 (by decide) (ht _ wC_166) rfl d_EN_hasParameter_9 ?_
    refine lv_icmp_ge (tgt := 19) hx hb d_EN_hasParameter_12 (by decide) (fun c3 => ?_) (fun c3 => ?_)
    · have hq := hq.1 c3
      refine lv_iconst (v := 0) hx hb d_EN_hasParameter_19 (by decide) ?_
      exact W.zret hx hb hr rfl (fun t ht hW => ⟨⟨0, σ, rfl, hq, by rw [ht]; exact hP, va_K.moved hW.alike hK, hN.warm hW⟩, hS.F ht⟩) hS.2.2 d_EN_hasParameter_20
    · have hq := hq.2 c3
      refine lv_iconst (v := 1) hx hb d_EN_hasParameter_15 (by decide) ?_
      refine lv_goto (tgt := 20) hx hb d_EN_hasParameter_16 (by decide) ?_
      exact W.zret hx hb hr rfl (fun t ht hW => ⟨⟨1, σ, rfl, hq, by rw [ht]; exact hP, va_K.moved hW.alike hK, hN.warm hW⟩, hS.F ht⟩) hS.2.2 d_EN_hasParameter_20
def wp_EN_hasLocals (h : Nat) (σ : CS) (Q : Int32 → CS → Prop) : Prop := (h < 9 ∧ ((gC σ h = none → Q 0 σ) ∧ (∀ k1 : Nat, gC σ h = some k1 → Q 1 σ)))
set_option maxHeartbeats 4000000 in
set_option maxRecDepth 100000 in
theorem c_EN_hasLocals {l : Launch} {D : va_G} {cs : CI} {ad : Nat → Nat} (hi : aI ad 51) {h : Nat} {σ : CS} {Q : Int32 → CS → Prop} (hq : wp_EN_hasLocals h σ Q) : Met l y_EN_hasLocals (.code y_EN_hasLocals b_EN_hasLocals 1 (some .boolean) :: wC) ({ frames := 0, cells := 0, slots := 0, locals := 0 }) (va_Pc [.ref (ad (15 + h))] (cP D cs ad σ)) (va_Qi Q (cP D cs ad) (aK ad 51)) 0 0 (aK ad 51) := by
  refine Met.ofW (cc := b_EN_hasLocals) (maxL := 1) (ret := (some .boolean)) (by decide) rfl ?_
  intro p e s m args below meth c s₁ B hml hv
  obtain ⟨rfl, hP, hK, hN⟩ := hv
  have hx := B.exec
  have hb := B.bytes
  have hr := B.returns
  have hts := atoms_spec (ws := .code y_EN_hasLocals b_EN_hasLocals 1 (some .boolean) :: wC) B.pre
  have ht : ∀ w ∈ wC, w.before _ s = true := fun w h => hts w (List.mem_cons_of_mem _ h)
  have hown : s.vm.findClass R_EN = some m.cls := findClass_of_methodNamed B.named
  have hlocks := B.notSynchronized
  have hS : va_S (aK ad 51) s.heap s.heap [] := va_S.rf
  have hl := lv_entry ([.ref (ad (15 + h))]) (n := 1) (Nat.le_of_ble_eq_true rfl)
  rw [lg_entry_eq]
  generalize (lg_sl ([.ref (ad (15 + h))]) ++ List.replicate (1 - (lg_sl ([.ref (ad (15 + h))])).length) Slot.unset).toArray = ls at hl ⊢
  have hl : lv_has ls 1 [(0, .ref (ad (15 + h)))] := hl
  unfold wp_EN_hasLocals at hq
  have hh_h : h < 9 := hq.1
  have hq := hq.2
  have hh8 : 8 < 9 := by decide
  refine lv_aload_n hx hb d_EN_hasLocals_0 rfl (lv_at hl 0 rfl) ?_
  refine cw_get (C := R_EN) (T := F_EN) (N := 6) (v := cv ad (gC σ h)) hx hb hts (in_EN _) hown hK hP (15 + h) (by omega) (ct_o hh_h) rfl 0 (by decide) (ht _ wC_158) rfl d_EN_hasLocals_1 ?_
  cases e2 : gC σ h with
  | none =>
    have hq := hq.1 e2
    rw [cv_none]
    refine lv_ifnullN (tgt := 11) hx hb d_EN_hasLocals_4 (by decide) ?_
    refine lv_iconst (v := 0) hx hb d_EN_hasLocals_11 (by decide) ?_
    exact W.zret hx hb hr rfl (fun t ht hW => ⟨⟨0, σ, rfl, hq, by rw [ht]; exact hP, va_K.moved hW.alike hK, hN.warm hW⟩, hS.F ht⟩) hS.2.2 d_EN_hasLocals_12
  | some k1 =>
    have hq := hq.2 k1 e2
    rw [cv_some]
    refine lv_ifnull hx hb d_EN_hasLocals_4 ?_
    refine lv_iconst (v := 1) hx hb d_EN_hasLocals_7 (by decide) ?_
    refine lv_goto (tgt := 12) hx hb d_EN_hasLocals_8 (by decide) ?_
    exact W.zret hx hb hr rfl (fun t ht hW => ⟨⟨1, σ, rfl, hq, by rw [ht]; exact hP, va_K.moved hW.alike hK, hN.warm hW⟩, hS.F ht⟩) hS.2.2 d_EN_hasLocals_12
def wp_PR_empty  (σ : CS) (Q : CS → Prop) : Prop := (∀ s1 : CS, s1 = sI σ 8 0 → (∀ s2 : CS, s2 = sA s1 4 (fl 4 (-1) (gA s1 4)) → Q s2))
set_option maxHeartbeats 4000000 in
set_option maxRecDepth 100000 in
theorem c_PR_empty {l : Launch} {D : va_G} {cs : CI} {ad : Nat → Nat} (hi : aI ad 51)  {σ : CS} {Q : CS → Prop} (hq : wp_PR_empty  σ Q) : Met l y_PR_empty (.code y_PR_empty b_PR_empty 1 none :: wC) ({ frames := 1, cells := 0, slots := 0, locals := 23 }) (va_Pc [.ref (ad 1)] (cP D cs ad σ)) (va_Qv Q (cP D cs ad) (aK ad 51)) 0 0 (aK ad 51) := by
  refine Met.ofW (cc := b_PR_empty) (maxL := 1) (ret := none) (by decide) rfl ?_
  intro p e s m args below meth c s₁ B hml hv
  obtain ⟨rfl, hP, hK, hN⟩ := hv
  have hx := B.exec
  have hb := B.bytes
  have hr := B.returns
  have hts := atoms_spec (ws := .code y_PR_empty b_PR_empty 1 none :: wC) B.pre
  have ht : ∀ w ∈ wC, w.before _ s = true := fun w h => hts w (List.mem_cons_of_mem _ h)
  have hown : s.vm.findClass R_PR = some m.cls := findClass_of_methodNamed B.named
  have hlocks := B.notSynchronized
  have hS : va_S (aK ad 51) s.heap s.heap [] := va_S.rf
  have hl := lv_entry ([.ref (ad 1)]) (n := 1) (Nat.le_of_ble_eq_true rfl)
  rw [lg_entry_eq]
  generalize (lg_sl ([.ref (ad 1)]) ++ List.replicate (1 - (lg_sl ([.ref (ad 1)])).length) Slot.unset).toArray = ls at hl ⊢
  have hl : lv_has ls 1 [(0, .ref (ad 1))] := hl
  unfold wp_PR_empty at hq
  have hh8 : 8 < 9 := by decide
  refine lv_aload_n hx hb d_PR_empty_0 rfl (lv_at hl 0 rfl) ?_
  refine lv_iconst (v := 0) hx hb d_PR_empty_1 (by decide) ?_
  refine cw_put (C := R_PR) (T := F_PR) (N := 8) (ty := .int) (v := .int 0) hx hb hts (in_PR _) t_PR tok_PR n_PR hown hK hP hi hS 1 (by decide) rfl rfl 4 (by decide) (ht _ wC_90) rfl (by decide +kernel) rfl rfl (Nat.le_of_ble_eq_true rfl) up_PR_size d_PR_empty_2 (fun H locs hP hS => ?_)
  obtain ⟨s1, e_s1⟩ : ∃ z, z = sI σ 8 0 := ⟨_, rfl⟩
  rw [← e_s1] at hP
  have hq := hq s1 e_s1
  refine lv_aload_n hx hb d_PR_empty_5 rfl (lv_at hl 0 rfl) ?_
  refine cw_get (C := R_PR) (T := F_PR) (N := 8) (v := .ref (ad 6)) hx hb hts (in_PR _) hown hK hP 1 (by decide) rfl rfl 5 (by decide) (ht _ wC_92) rfl d_PR_empty_6 ?_
  refine lv_iconst (v := (-1)) hx hb d_PR_empty_9 (by decide) ?_
  have hPc := wd_one hP (k := 6) (by decide) rfl
  refine va_callv (va_runS (As := [.ref (ad 6), .int (-1)]) (rest := []) ⟨hx, hb, hml, hown, hts⟩ (c_AR_fillI (D := D) (cl := clA) (cA := cs.1) (ad 6) 4 (by decide) (gA s1 4) (-1)) (va_cwS 2 hts (good_S wC_75 wC_76 wC_46 wC_77) rfl rfl rfl (by decide +kernel) ⟨(show 0 + 1 ≤ 1 by omega), (show 8 + (4 + 11) + 0 ≤ 23 by omega)⟩) ⟨fun a U g mk h => ⟨h.1, h.2.1, va_K.moved (u := U) (U := U.calling g mk a) (Vm.Alike.refl U.vm) h.2.2⟩, fun U hU hW => ⟨rfl, by rw [hU]; exact hPc, va_K.moved hW.alike (hK.sub [0] rfl)⟩⟩ rfl rfl hl.1 rfl (lv_room (Nat.le_of_ble_eq_true rfl)) d_PR_empty_10 ⟨Nat.le_of_ble_eq_true rfl, Nat.le_of_ble_eq_true rfl⟩) hS (fun q _ hz0 => ⟨6, (by decide), hz0⟩) (fun q hz0 => ⟨6, (by decide), hz0⟩) (fun u t H locs ht0 hvm hw hB hz1 hk1 hS => ?_)
  obtain ⟨hP1, -⟩ := hB
  rw [ht0] at hP1
  have hP := wd_call hP hi (k := 6) (by decide) hP1 hk1
  rw [hw, upa_4] at hP
  obtain ⟨s2, e_s2⟩ : ∃ z, z = sA s1 4 (fl 4 (-1) (gA s1 4)) := ⟨_, rfl⟩
  rw [← e_s2] at hP
  have hq := hq s2 e_s2
  exact W.vret hx hb hr (fun t ht hW => ⟨⟨s2, rfl, hq, by rw [ht]; exact hP, va_K.moved hW.alike hK, hN.warm hW⟩, hS.F ht⟩) hS.2.2 d_PR_empty_13
def wp_ST_lay (p1 : Int32) (p2 : Int32) (p3 : Int32) (p4 : Int32) (σ : CS) (Q : CS → Prop) : Prop := (∀ s1 : CS, s1 = sI σ 9 p1 → (∀ s2 : CS, s2 = sI s1 10 p2 → (∀ s3 : CS, s3 = sI s2 11 p3 → (∀ s4 : CS, s4 = sI s3 12 p4 → (∀ s5 : CS, s5 = sD s4 1 (fl 25 FP.dconst0 (gD s4 1)) → Q s5)))))
set_option maxHeartbeats 4000000 in
set_option maxRecDepth 100000 in
theorem c_ST_lay {l : Launch} {D : va_G} {cs : CI} {ad : Nat → Nat} (hi : aI ad 51) {p1 : Int32} {p2 : Int32} {p3 : Int32} {p4 : Int32} {σ : CS} {Q : CS → Prop} (hq : wp_ST_lay p1 p2 p3 p4 σ Q) : Met l y_ST_lay (.code y_ST_lay b_ST_lay 5 none :: wC) ({ frames := 1, cells := 0, slots := 0, locals := 24 }) (va_Pc [.ref (ad 9), .int p1, .int p2, .int p3, .int p4] (cP D cs ad σ)) (va_Qv Q (cP D cs ad) (aK ad 51)) 0 0 (aK ad 51) := by
  refine Met.ofW (cc := b_ST_lay) (maxL := 5) (ret := none) (by decide) rfl ?_
  intro p e s m args below meth c s₁ B hml hv
  obtain ⟨rfl, hP, hK, hN⟩ := hv
  have hx := B.exec
  have hb := B.bytes
  have hr := B.returns
  have hts := atoms_spec (ws := .code y_ST_lay b_ST_lay 5 none :: wC) B.pre
  have ht : ∀ w ∈ wC, w.before _ s = true := fun w h => hts w (List.mem_cons_of_mem _ h)
  have hown : s.vm.findClass R_ST = some m.cls := findClass_of_methodNamed B.named
  have hlocks := B.notSynchronized
  have hS : va_S (aK ad 51) s.heap s.heap [] := va_S.rf
  have hl := lv_entry ([.ref (ad 9), .int p1, .int p2, .int p3, .int p4]) (n := 5) (Nat.le_of_ble_eq_true rfl)
  rw [lg_entry_eq]
  generalize (lg_sl ([.ref (ad 9), .int p1, .int p2, .int p3, .int p4]) ++ List.replicate (5 - (lg_sl ([.ref (ad 9), .int p1, .int p2, .int p3, .int p4])).length) Slot.unset).toArray = ls at hl ⊢
  have hl : lv_has ls 5 [(0, .ref (ad 9)), (1, .int p1), (2, .int p2), (3, .int p3), (4, .int p4)] := hl
  unfold wp_ST_lay at hq
  have hh8 : 8 < 9 := by decide
  refine lv_aload_n hx hb d_ST_lay_0 rfl (lv_at hl 0 rfl) ?_
  refine lv_iload_n hx hb d_ST_lay_1 rfl (lv_at hl 1 rfl) ?_
  refine cw_put (C := R_ST) (T := F_ST) (N := 6) (ty := .int) (v := .int p1) hx hb hts (in_ST _) t_ST tok_ST n_ST hown hK hP hi hS 9 (by decide) rfl rfl 2 (by decide) (ht _ wC_128) rfl (by decide +kernel) rfl rfl (Nat.le_of_ble_eq_true rfl) up_ST_firstRow d_ST_lay_2 (fun H locs hP hS => ?_)
  obtain ⟨s1, e_s1⟩ : ∃ z, z = sI σ 9 p1 := ⟨_, rfl⟩
  rw [← e_s1] at hP
  have hq := hq s1 e_s1
  refine lv_aload_n hx hb d_ST_lay_5 rfl (lv_at hl 0 rfl) ?_
  refine lv_iload_n hx hb d_ST_lay_6 rfl (lv_at hl 2 rfl) ?_
  refine cw_put (C := R_ST) (T := F_ST) (N := 6) (ty := .int) (v := .int p2) hx hb hts (in_ST _) t_ST tok_ST n_ST hown hK hP hi hS 9 (by decide) rfl rfl 3 (by decide) (ht _ wC_129) rfl (by decide +kernel) rfl rfl (Nat.le_of_ble_eq_true rfl) up_ST_lastRow d_ST_lay_7 (fun H locs hP hS => ?_)
  obtain ⟨s2, e_s2⟩ : ∃ z, z = sI s1 10 p2 := ⟨_, rfl⟩
  rw [← e_s2] at hP
  have hq := hq s2 e_s2
  refine lv_aload_n hx hb d_ST_lay_10 rfl (lv_at hl 0 rfl) ?_
  refine lv_iload_n hx hb d_ST_lay_11 rfl (lv_at hl 3 rfl) ?_
  refine cw_put (C := R_ST) (T := F_ST) (N := 6) (ty := .int) (v := .int p3) hx hb hts (in_ST _) t_ST tok_ST n_ST hown hK hP hi hS 9 (by decide) rfl rfl 4 (by decide) (ht _ wC_130) rfl (by decide +kernel) rfl rfl (Nat.le_of_ble_eq_true rfl) up_ST_firstColumn d_ST_lay_12 (fun H locs hP hS => ?_)
  obtain ⟨s3, e_s3⟩ : ∃ z, z = sI s2 11 p3 := ⟨_, rfl⟩
  rw [← e_s3] at hP
  have hq := hq s3 e_s3
  refine lv_aload_n hx hb d_ST_lay_15 rfl (lv_at hl 0 rfl) ?_
  refine lv_iload hx hb d_ST_lay_16 (lv_at hl 4 rfl) ?_
  refine cw_put (C := R_ST) (T := F_ST) (N := 6) (ty := .int) (v := .int p4) hx hb hts (in_ST _) t_ST tok_ST n_ST hown hK hP hi hS 9 (by decide) rfl rfl 5 (by decide) (ht _ wC_131) rfl (by decide +kernel) rfl rfl (Nat.le_of_ble_eq_true rfl) up_ST_lastColumn d_ST_lay_18 (fun H locs hP hS => ?_)
  obtain ⟨s4, e_s4⟩ : ∃ z, z = sI s3 12 p4 := ⟨_, rfl⟩
  rw [← e_s4] at hP
  have hq := hq s4 e_s4
  refine lv_aload_n hx hb d_ST_lay_21 rfl (lv_at hl 0 rfl) ?_
  refine cw_get (C := R_ST) (T := F_ST) (N := 6) (v := .ref (ad 11)) hx hb hts (in_ST _) hown hK hP 9 (by decide) rfl rfl 1 (by decide) (ht _ wC_125) rfl d_ST_lay_22 ?_
  refine lv_dconst0 hx hb d_ST_lay_25 ?_
  have hPc := wd_one hP (k := 11) (by decide) rfl
  refine va_callv (va_runS (As := [.ref (ad 11), .double FP.dconst0]) (rest := []) ⟨hx, hb, hml, hown, hts⟩ (c_AR_fillD (D := D) (cl := clA) (cA := cs.2.1) (ad 11) 25 (by decide) (gD s4 1) FP.dconst0) (va_cwS 2 hts (good_S wC_395 wC_396 wC_46 wC_397) rfl rfl rfl (by decide +kernel) ⟨(show 0 + 1 ≤ 1 by omega), (show 8 + (5 + 11) + 0 ≤ 24 by omega)⟩) ⟨fun a U g mk h => ⟨h.1, h.2.1, va_K.moved (u := U) (U := U.calling g mk a) (Vm.Alike.refl U.vm) h.2.2⟩, fun U hU hW => ⟨rfl, by rw [hU]; exact hPc, va_K.moved hW.alike (hK.sub [1] rfl)⟩⟩ rfl rfl hl.1 rfl (lv_room (Nat.le_of_ble_eq_true rfl)) d_ST_lay_26 ⟨Nat.le_of_ble_eq_true rfl, Nat.le_of_ble_eq_true rfl⟩) hS (fun q _ hz0 => ⟨11, (by decide), hz0⟩) (fun q hz0 => ⟨11, (by decide), hz0⟩) (fun u t H locs ht0 hvm hw hB hz1 hk1 hS => ?_)
  obtain ⟨hP1, -⟩ := hB
  rw [ht0] at hP1
  have hP := wd_call hP hi (k := 11) (by decide) hP1 hk1
  rw [hw, upd_1] at hP
  obtain ⟨s5, e_s5⟩ : ∃ z, z = sD s4 1 (fl 25 FP.dconst0 (gD s4 1)) := ⟨_, rfl⟩
  rw [← e_s5] at hP
  have hq := hq s5 e_s5
  exact W.vret hx hb hr (fun t ht hW => ⟨⟨s5, rfl, hq, by rw [ht]; exact hP, va_K.moved hW.alike hK, hN.warm hW⟩, hS.F ht⟩) hS.2.2 d_ST_lay_29
def wp_EN_begin (h : Nat) (g1 : Nat) (p2 : Int32) (p3 : Int32) (σ : CS) (Q : CS → Prop) : Prop := (h < 9 ∧ (g1 < 9 ∧ (∀ s1 : CS, s1 = sC σ h (some g1) → (∀ s2 : CS, s2 = sI s1 (20 + h) p2 → (∀ s3 : CS, s3 = sI s2 (30 + h) p3 → (∀ s4 : CS, s4 = sD s3 (20 + h) (fl 2 FP.dconst0 (gD s3 (20 + h))) → Q s4))))))
set_option maxHeartbeats 4000000 in
set_option maxRecDepth 100000 in
theorem c_EN_begin {l : Launch} {D : va_G} {cs : CI} {ad : Nat → Nat} (hi : aI ad 51) {h : Nat} {g1 : Nat} {p2 : Int32} {p3 : Int32} {σ : CS} {Q : CS → Prop} (hq : wp_EN_begin h g1 p2 p3 σ Q) : Met l y_EN_begin (.code y_EN_begin b_EN_begin 4 none :: wC) ({ frames := 1, cells := 0, slots := 0, locals := 24 }) (va_Pc [.ref (ad (15 + h)), .ref (ad (15 + g1)), .int p2, .int p3] (cP D cs ad σ)) (va_Qv Q (cP D cs ad) (aK ad 51)) 0 0 (aK ad 51) := by
  refine Met.ofW (cc := b_EN_begin) (maxL := 4) (ret := none) (by decide) rfl ?_
  intro p e s m args below meth c s₁ B hml hv
  obtain ⟨rfl, hP, hK, hN⟩ := hv
  have hx := B.exec
  have hb := B.bytes
  have hr := B.returns
  have hts := atoms_spec (ws := .code y_EN_begin b_EN_begin 4 none :: wC) B.pre
  have ht : ∀ w ∈ wC, w.before _ s = true := fun w h => hts w (List.mem_cons_of_mem _ h)
  have hown : s.vm.findClass R_EN = some m.cls := findClass_of_methodNamed B.named
  have hlocks := B.notSynchronized
  have hS : va_S (aK ad 51) s.heap s.heap [] := va_S.rf
  have hl := lv_entry ([.ref (ad (15 + h)), .ref (ad (15 + g1)), .int p2, .int p3]) (n := 4) (Nat.le_of_ble_eq_true rfl)
  rw [lg_entry_eq]
  generalize (lg_sl ([.ref (ad (15 + h)), .ref (ad (15 + g1)), .int p2, .int p3]) ++ List.replicate (4 - (lg_sl ([.ref (ad (15 + h)), .ref (ad (15 + g1)), .int p2, .int p3])).length) Slot.unset).toArray = ls at hl ⊢
  have hl : lv_has ls 4 [(0, .ref (ad (15 + h))), (1, .ref (ad (15 + g1))), (2, .int p2), (3, .int p3)] := hl
  unfold wp_EN_begin at hq
  have hh_h : h < 9 := hq.1
  have hq := hq.2
  have hh_g1 : g1 < 9 := hq.1
  have hq := hq.2
  have hh8 : 8 < 9 := by decide
  refine lv_aload_n hx hb d_EN_begin_0 rfl (lv_at hl 0 rfl) ?_
  refine lv_aload_n hx hb d_EN_begin_1 rfl (lv_at hl 1 rfl) ?_
  refine cw_put (C := R_EN) (T := F_EN) (N := 6) (ty := .object "NameForge$Environment") (v := .ref (ad (15 + g1))) hx hb hts (in_EN _) t_EN tok_EN n_EN hown hK hP hi hS (15 + h) (by omega) (ct_o hh_h) rfl 0 (by decide) (ht _ wC_158) rfl (by decide +kernel) rfl rfl (Nat.le_of_ble_eq_true rfl) (up_EN_caller (v := some g1) hh_h) d_EN_begin_2 (fun H locs hP hS => ?_)
  obtain ⟨s1, e_s1⟩ : ∃ z, z = sC σ h (some g1) := ⟨_, rfl⟩
  rw [← e_s1] at hP
  have hq := hq s1 e_s1
  refine lv_aload_n hx hb d_EN_begin_5 rfl (lv_at hl 0 rfl) ?_
  refine lv_iload_n hx hb d_EN_begin_6 rfl (lv_at hl 2 rfl) ?_
  refine cw_put (C := R_EN) (T := F_EN) (N := 6) (ty := .int) (v := .int p2) hx hb hts (in_EN _) t_EN tok_EN n_EN hown hK hP hi hS (15 + h) (by omega) (ct_o hh_h) rfl 4 (by decide) (ht _ wC_166) rfl (by decide +kernel) rfl rfl (Nat.le_of_ble_eq_true rfl) (up_EN_parameters hh_h) d_EN_begin_7 (fun H locs hP hS => ?_)
  obtain ⟨s2, e_s2⟩ : ∃ z, z = sI s1 (20 + h) p2 := ⟨_, rfl⟩
  rw [← e_s2] at hP
  have hq := hq s2 e_s2
  refine lv_aload_n hx hb d_EN_begin_10 rfl (lv_at hl 0 rfl) ?_
  refine lv_iload_n hx hb d_EN_begin_11 rfl (lv_at hl 3 rfl) ?_
  refine cw_put (C := R_EN) (T := F_EN) (N := 6) (ty := .int) (v := .int p3) hx hb hts (in_EN _) t_EN tok_EN n_EN hown hK hP hi hS (15 + h) (by omega) (ct_o hh_h) rfl 5 (by decide) (ht _ wC_167) rfl (by decide +kernel) rfl rfl (Nat.le_of_ble_eq_true rfl) (up_EN_names hh_h) d_EN_begin_12 (fun H locs hP hS => ?_)
  obtain ⟨s3, e_s3⟩ : ∃ z, z = sI s2 (30 + h) p3 := ⟨_, rfl⟩
  rw [← e_s3] at hP
  have hq := hq s3 e_s3
  refine lv_aload_n hx hb d_EN_begin_15 rfl (lv_at hl 0 rfl) ?_
  refine cw_get (C := R_EN) (T := F_EN) (N := 6) (v := .ref (ad (42 + h))) hx hb hts (in_EN _) hown hK hP (15 + h) (by omega) (ct_o hh_h) rfl 3 (by decide) (ht _ wC_164) rfl d_EN_begin_16 ?_
  refine lv_dconst0 hx hb d_EN_begin_19 ?_
  have hPc := wd_one hP (k := (42 + h)) (by omega) (ct_l hh_h)
  refine va_callv (va_runS (As := [.ref (ad (42 + h)), .double FP.dconst0]) (rest := []) ⟨hx, hb, hml, hown, hts⟩ (c_AR_fillD (D := D) (cl := clA) (cA := cs.2.1) (ad (42 + h)) 2 (by decide) (gD s3 (20 + h)) FP.dconst0) (va_cwS 2 hts (good_S wC_499 wC_396 wC_46 wC_397) rfl rfl rfl (by decide +kernel) ⟨(show 0 + 1 ≤ 1 by omega), (show 8 + (5 + 11) + 0 ≤ 24 by omega)⟩) ⟨fun a U g mk h => ⟨h.1, h.2.1, va_K.moved (u := U) (U := U.calling g mk a) (Vm.Alike.refl U.vm) h.2.2⟩, fun U hU hW => ⟨rfl, by rw [hU]; exact hPc, va_K.moved hW.alike (hK.sub [1] rfl)⟩⟩ rfl rfl hl.1 rfl (lv_room (Nat.le_of_ble_eq_true rfl)) d_EN_begin_20 ⟨Nat.le_of_ble_eq_true rfl, Nat.le_of_ble_eq_true rfl⟩) hS (fun q _ hz0 => ⟨(42 + h), (by omega), hz0⟩) (fun q hz0 => ⟨(42 + h), (by omega), hz0⟩) (fun u t H locs ht0 hvm hw hB hz1 hk1 hS => ?_)
  obtain ⟨hP1, -⟩ := hB
  rw [ht0] at hP1
  have hP := wd_call hP hi (k := (42 + h)) (by omega) hP1 hk1
  rw [hw, upd_20 hh_h] at hP
  obtain ⟨s4, e_s4⟩ : ∃ z, z = sD s3 (20 + h) (fl 2 FP.dconst0 (gD s3 (20 + h))) := ⟨_, rfl⟩
  rw [← e_s4] at hP
  have hq := hq s4 e_s4
  exact W.vret hx hb hr (fun t ht hW => ⟨⟨s4, rfl, hq, by rw [ht]; exact hP, va_K.moved hW.alike hK, hN.warm hW⟩, hS.F ht⟩) hS.2.2 d_EN_begin_23
def wp_WK_leaving  (σ : CS) (Q : Int32 → CS → Prop) : Prop := (((gI σ 1) = 0 → (((gI σ 7) = (-1) → Q 0 σ) ∧ (¬ (gI σ 7) = (-1) → Q 1 σ))) ∧ (¬ (gI σ 1) = 0 → Q 1 σ))
set_option maxHeartbeats 4000000 in
set_option maxRecDepth 100000 in
theorem c_WK_leaving {l : Launch} {D : va_G} {cs : CI} {ad : Nat → Nat} (hi : aI ad 51)  {σ : CS} {Q : Int32 → CS → Prop} (hq : wp_WK_leaving  σ Q) : Met l y_WK_leaving (.code y_WK_leaving b_WK_leaving 1 (some .boolean) :: wC) ({ frames := 0, cells := 0, slots := 0, locals := 0 }) (va_Pc [.ref (ad 12)] (cP D cs ad σ)) (va_Qi Q (cP D cs ad) (aK ad 51)) 0 0 (aK ad 51) := by
  refine Met.ofW (cc := b_WK_leaving) (maxL := 1) (ret := (some .boolean)) (by decide) rfl ?_
  intro p e s m args below meth c s₁ B hml hv
  obtain ⟨rfl, hP, hK, hN⟩ := hv
  have hx := B.exec
  have hb := B.bytes
  have hr := B.returns
  have hts := atoms_spec (ws := .code y_WK_leaving b_WK_leaving 1 (some .boolean) :: wC) B.pre
  have ht : ∀ w ∈ wC, w.before _ s = true := fun w h => hts w (List.mem_cons_of_mem _ h)
  have hown : s.vm.findClass R_WK = some m.cls := findClass_of_methodNamed B.named
  have hlocks := B.notSynchronized
  have hS : va_S (aK ad 51) s.heap s.heap [] := va_S.rf
  have hl := lv_entry ([.ref (ad 12)]) (n := 1) (Nat.le_of_ble_eq_true rfl)
  rw [lg_entry_eq]
  generalize (lg_sl ([.ref (ad 12)]) ++ List.replicate (1 - (lg_sl ([.ref (ad 12)])).length) Slot.unset).toArray = ls at hl ⊢
  have hl : lv_has ls 1 [(0, .ref (ad 12))] := hl
  unfold wp_WK_leaving at hq
  have hh8 : 8 < 9 := by decide
  refine lv_aload_n hx hb d_WK_leaving_0 rfl (lv_at hl 0 rfl) ?_
  refine cw_get (C := R_WK) (T := F_WK) (N := 13) (v := .int (gI σ 1)) hx hb hts (in_WK _) hown hK hP 12 (by decide) rfl rfl 1 (by decide) (ht _ wC_184) rfl d_WK_leaving_1 ?_
  refine lv_if_ne (tgt := 15) hx hb d_WK_leaving_4 (by decide) (fun c1 => ?_) (fun c1 => ?_)
  · have hq := hq.2 c1
    refine lv_iconst (v := 1) hx hb d_WK_leaving_15 (by decide) ?_
    refine lv_goto (tgt := 20) hx hb d_WK_leaving_16 (by decide) ?_
    exact W.zret hx hb hr rfl (fun t ht hW => ⟨⟨1, σ, rfl, hq, by rw [ht]; exact hP, va_K.moved hW.alike hK, hN.warm hW⟩, hS.F ht⟩) hS.2.2 d_WK_leaving_20
  · have hq := hq.1 c1
    refine lv_aload_n hx hb d_WK_leaving_7 rfl (lv_at hl 0 rfl) ?_
    refine cw_get (C := R_WK) (T := F_WK) (N := 13) (v := .int (gI σ 7)) hx hb hts (in_WK _) hown hK hP 12 (by decide) rfl rfl 12 (by decide) (ht _ wC_199) rfl d_WK_leaving_8 ?_
    refine lv_iconst (v := (-1)) hx hb d_WK_leaving_11 (by decide) ?_
    refine lv_icmp_eq (tgt := 19) hx hb d_WK_leaving_12 (by decide) (fun c2 => ?_) (fun c2 => ?_)
    · have hq := hq.1 c2
      refine lv_iconst (v := 0) hx hb d_WK_leaving_19 (by decide) ?_
      exact W.zret hx hb hr rfl (fun t ht hW => ⟨⟨0, σ, rfl, hq, by rw [ht]; exact hP, va_K.moved hW.alike hK, hN.warm hW⟩, hS.F ht⟩) hS.2.2 d_WK_leaving_20
    · have hq := hq.2 c2
      refine lv_iconst (v := 1) hx hb d_WK_leaving_15 (by decide) ?_
      refine lv_goto (tgt := 20) hx hb d_WK_leaving_16 (by decide) ?_
      exact W.zret hx hb hr rfl (fun t ht hW => ⟨⟨1, σ, rfl, hq, by rw [ht]; exact hP, va_K.moved hW.alike hK, hN.warm hW⟩, hS.F ht⟩) hS.2.2 d_WK_leaving_20
def wp_WK_fail (p1 : Int32) (σ : CS) (Q : UInt64 → CS → Prop) : Prop := (∀ s1 : CS, s1 = sI σ 1 p1 → Q FP.dconst0 s1)
set_option maxHeartbeats 4000000 in
set_option maxRecDepth 100000 in
theorem c_WK_fail {l : Launch} {D : va_G} {cs : CI} {ad : Nat → Nat} (hi : aI ad 51) {p1 : Int32} {σ : CS} {Q : UInt64 → CS → Prop} (hq : wp_WK_fail p1 σ Q) : Met l y_WK_fail (.code y_WK_fail b_WK_fail 2 (some .double) :: wC) ({ frames := 0, cells := 0, slots := 0, locals := 0 }) (va_Pc [.ref (ad 12), .int p1] (cP D cs ad σ)) (va_Qd Q (cP D cs ad) (aK ad 51)) 0 0 (aK ad 51) := by
  refine Met.ofW (cc := b_WK_fail) (maxL := 2) (ret := (some .double)) (by decide) rfl ?_
  intro p e s m args below meth c s₁ B hml hv
  obtain ⟨rfl, hP, hK, hN⟩ := hv
  have hx := B.exec
  have hb := B.bytes
  have hr := B.returns
  have hts := atoms_spec (ws := .code y_WK_fail b_WK_fail 2 (some .double) :: wC) B.pre
  have ht : ∀ w ∈ wC, w.before _ s = true := fun w h => hts w (List.mem_cons_of_mem _ h)
  have hown : s.vm.findClass R_WK = some m.cls := findClass_of_methodNamed B.named
  have hlocks := B.notSynchronized
  have hS : va_S (aK ad 51) s.heap s.heap [] := va_S.rf
  have hl := lv_entry ([.ref (ad 12), .int p1]) (n := 2) (Nat.le_of_ble_eq_true rfl)
  rw [lg_entry_eq]
  generalize (lg_sl ([.ref (ad 12), .int p1]) ++ List.replicate (2 - (lg_sl ([.ref (ad 12), .int p1])).length) Slot.unset).toArray = ls at hl ⊢
  have hl : lv_has ls 2 [(0, .ref (ad 12)), (1, .int p1)] := hl
  unfold wp_WK_fail at hq
  have hh8 : 8 < 9 := by decide
  refine lv_aload_n hx hb d_WK_fail_0 rfl (lv_at hl 0 rfl) ?_
  refine lv_iload_n hx hb d_WK_fail_1 rfl (lv_at hl 1 rfl) ?_
  refine cw_put (C := R_WK) (T := F_WK) (N := 13) (ty := .int) (v := .int p1) hx hb hts (in_WK _) t_WK tok_WK n_WK hown hK hP hi hS 12 (by decide) rfl rfl 1 (by decide) (ht _ wC_184) rfl (by decide +kernel) rfl rfl (Nat.le_of_ble_eq_true rfl) up_WK_fault d_WK_fail_2 (fun H locs hP hS => ?_)
  obtain ⟨s1, e_s1⟩ : ∃ z, z = sI σ 1 p1 := ⟨_, rfl⟩
  rw [← e_s1] at hP
  have hq := hq s1 e_s1
  refine lv_dconst0 hx hb d_WK_fail_5 ?_
  exact W.dret hx hb hr (fun t ht hW => ⟨⟨FP.dconst0, s1, rfl, hq, by rw [ht]; exact hP, va_K.moved hW.alike hK, hN.warm hW⟩, hS.F ht⟩) hS.2.2 d_WK_fail_6
def wp_WK_mayBegin (p1 : Int32) (σ : CS) (Q : Int32 → CS → Prop) : Prop := ((p1 ≤ 80 → (((gI σ 0) = 300 → (∀ s4 : CS, s4 = sI σ 1 8 → Q 0 s4)) ∧ (¬ (gI σ 0) = 300 → (∀ s3 : CS, s3 = sI σ 0 ((gI σ 0) + 1) → Q 1 s3)))) ∧ (¬ p1 ≤ 80 → (∀ s5 : CS, s5 = sI σ 1 7 → Q 0 s5)))
set_option maxHeartbeats 4000000 in
set_option maxRecDepth 100000 in
theorem c_WK_mayBegin {l : Launch} {D : va_G} {cs : CI} {ad : Nat → Nat} (hi : aI ad 51) {p1 : Int32} {σ : CS} {Q : Int32 → CS → Prop} (hq : wp_WK_mayBegin p1 σ Q) : Met l y_WK_mayBegin (.code y_WK_mayBegin b_WK_mayBegin 2 (some .boolean) :: wC) ({ frames := 0, cells := 0, slots := 0, locals := 0 }) (va_Pc [.ref (ad 12), .int p1] (cP D cs ad σ)) (va_Qi Q (cP D cs ad) (aK ad 51)) 0 0 (aK ad 51) := by
  refine Met.ofW (cc := b_WK_mayBegin) (maxL := 2) (ret := (some .boolean)) (by decide) rfl ?_
  intro p e s m args below meth c s₁ B hml hv
  obtain ⟨rfl, hP, hK, hN⟩ := hv
  have hx := B.exec
  have hb := B.bytes
  have hr := B.returns
  have hts := atoms_spec (ws := .code y_WK_mayBegin b_WK_mayBegin 2 (some .boolean) :: wC) B.pre
  have ht : ∀ w ∈ wC, w.before _ s = true := fun w h => hts w (List.mem_cons_of_mem _ h)
  have hown : s.vm.findClass R_WK = some m.cls := findClass_of_methodNamed B.named
  have hlocks := B.notSynchronized
  have hS : va_S (aK ad 51) s.heap s.heap [] := va_S.rf
  have hl := lv_entry ([.ref (ad 12), .int p1]) (n := 2) (Nat.le_of_ble_eq_true rfl)
  rw [lg_entry_eq]
  generalize (lg_sl ([.ref (ad 12), .int p1]) ++ List.replicate (2 - (lg_sl ([.ref (ad 12), .int p1])).length) Slot.unset).toArray = ls at hl ⊢
  have hl : lv_has ls 2 [(0, .ref (ad 12)), (1, .int p1)] := hl
  unfold wp_WK_mayBegin at hq
  have hh8 : 8 < 9 := by decide
  refine lv_iload_n hx hb d_WK_mayBegin_0 rfl (lv_at hl 1 rfl) ?_
  refine lv_bipush (v := 80) hx hb d_WK_mayBegin_1 (by decide) ?_
  refine lv_icmp_le (tgt := 14) hx hb d_WK_mayBegin_3 (by decide) (fun c1 => ?_) (fun c1 => ?_)
  · have hq := hq.1 c1
    refine lv_aload_n hx hb d_WK_mayBegin_14 rfl (lv_at hl 0 rfl) ?_
    refine cw_get (C := R_WK) (T := F_WK) (N := 13) (v := .int (gI σ 0)) hx hb hts (in_WK _) hown hK hP 12 (by decide) rfl rfl 0 (by decide) (ht _ wC_182) rfl d_WK_mayBegin_15 ?_
    refine lv_sipush (v := 300) hx hb d_WK_mayBegin_18 (by decide) ?_
    refine lv_icmp_ne (tgt := 32) hx hb d_WK_mayBegin_21 (by decide) (fun c2 => ?_) (fun c2 => ?_)
    · have hq := hq.2 c2
      refine lv_aload_n hx hb d_WK_mayBegin_32 rfl (lv_at hl 0 rfl) ?_
      refine lv_dup hx hb d_WK_mayBegin_33 rfl ?_
      refine cw_get (C := R_WK) (T := F_WK) (N := 13) (v := .int (gI σ 0)) hx hb hts (in_WK _) hown hK hP 12 (by decide) rfl rfl 0 (by decide) (ht _ wC_182) rfl d_WK_mayBegin_34 ?_
      refine lv_iconst (v := 1) hx hb d_WK_mayBegin_37 (by decide) ?_
      refine lv_iadd hx hb d_WK_mayBegin_38 ?_
      refine cw_put (C := R_WK) (T := F_WK) (N := 13) (ty := .int) (v := .int ((gI σ 0) + 1)) hx hb hts (in_WK _) t_WK tok_WK n_WK hown hK hP hi hS 12 (by decide) rfl rfl 0 (by decide) (ht _ wC_182) rfl (by decide +kernel) rfl rfl (Nat.le_of_ble_eq_true rfl) up_WK_worked d_WK_mayBegin_39 (fun H locs hP hS => ?_)
      obtain ⟨s3, e_s3⟩ : ∃ z, z = sI σ 0 ((gI σ 0) + 1) := ⟨_, rfl⟩
      rw [← e_s3] at hP
      have hq := hq s3 e_s3
      refine lv_iconst (v := 1) hx hb d_WK_mayBegin_42 (by decide) ?_
      exact W.zret hx hb hr rfl (fun t ht hW => ⟨⟨1, s3, rfl, hq, by rw [ht]; exact hP, va_K.moved hW.alike hK, hN.warm hW⟩, hS.F ht⟩) hS.2.2 d_WK_mayBegin_43
    · have hq := hq.1 c2
      refine lv_aload_n hx hb d_WK_mayBegin_24 rfl (lv_at hl 0 rfl) ?_
      refine lv_bipush (v := 8) hx hb d_WK_mayBegin_25 (by decide) ?_
      refine cw_put (C := R_WK) (T := F_WK) (N := 13) (ty := .int) (v := .int 8) hx hb hts (in_WK _) t_WK tok_WK n_WK hown hK hP hi hS 12 (by decide) rfl rfl 1 (by decide) (ht _ wC_184) rfl (by decide +kernel) rfl rfl (Nat.le_of_ble_eq_true rfl) up_WK_fault d_WK_mayBegin_27 (fun H locs hP hS => ?_)
      obtain ⟨s4, e_s4⟩ : ∃ z, z = sI σ 1 8 := ⟨_, rfl⟩
      rw [← e_s4] at hP
      have hq := hq s4 e_s4
      refine lv_iconst (v := 0) hx hb d_WK_mayBegin_30 (by decide) ?_
      exact W.zret hx hb hr rfl (fun t ht hW => ⟨⟨0, s4, rfl, hq, by rw [ht]; exact hP, va_K.moved hW.alike hK, hN.warm hW⟩, hS.F ht⟩) hS.2.2 d_WK_mayBegin_31
  · have hq := hq.2 c1
    refine lv_aload_n hx hb d_WK_mayBegin_6 rfl (lv_at hl 0 rfl) ?_
    refine lv_bipush (v := 7) hx hb d_WK_mayBegin_7 (by decide) ?_
    refine cw_put (C := R_WK) (T := F_WK) (N := 13) (ty := .int) (v := .int 7) hx hb hts (in_WK _) t_WK tok_WK n_WK hown hK hP hi hS 12 (by decide) rfl rfl 1 (by decide) (ht _ wC_184) rfl (by decide +kernel) rfl rfl (Nat.le_of_ble_eq_true rfl) up_WK_fault d_WK_mayBegin_9 (fun H locs hP hS => ?_)
    obtain ⟨s5, e_s5⟩ : ∃ z, z = sI σ 1 7 := ⟨_, rfl⟩
    rw [← e_s5] at hP
    have hq := hq s5 e_s5
    refine lv_iconst (v := 0) hx hb d_WK_mayBegin_12 (by decide) ?_
    exact W.zret hx hb hr rfl (fun t ht hW => ⟨⟨0, s5, rfl, hq, by rw [ht]; exact hP, va_K.moved hW.alike hK, hN.warm hW⟩, hS.F ht⟩) hS.2.2 d_WK_mayBegin_13
def wp_WK_mayEnter  (σ : CS) (Q : Int32 → CS → Prop) : Prop := (((gI σ 6) = 8 → (∀ s4 : CS, s4 = sI σ 1 7 → Q 0 s4)) ∧ (¬ (gI σ 6) = 8 → (∀ s2 : CS, s2 = sI σ 6 ((gI σ 6) + 1) → (∀ s3 : CS, s3 = sI s2 3 (if (gI s2 3) < (gI s2 6) then (gI s2 6) else (gI s2 3)) → Q 1 s3))))
set_option maxHeartbeats 4000000 in
set_option maxRecDepth 100000 in
theorem c_WK_mayEnter {l : Launch} {D : va_G} {cs : CI} {ad : Nat → Nat} (hi : aI ad 51)  {σ : CS} {Q : Int32 → CS → Prop} (hq : wp_WK_mayEnter  σ Q) : Met l y_WK_mayEnter (.code y_WK_mayEnter b_WK_mayEnter 1 (some .boolean) :: wC) ({ frames := 1, cells := 0, slots := 0, locals := 32 }) (va_Pc [.ref (ad 12)] (cP D cs ad σ)) (va_Qi Q (cP D cs ad) (aK ad 51)) 0 0 (aK ad 51) := by
  refine Met.ofW (cc := b_WK_mayEnter) (maxL := 1) (ret := (some .boolean)) (by decide) rfl ?_
  intro p e s m args below meth c s₁ B hml hv
  obtain ⟨rfl, hP, hK, hN⟩ := hv
  have hx := B.exec
  have hb := B.bytes
  have hr := B.returns
  have hts := atoms_spec (ws := .code y_WK_mayEnter b_WK_mayEnter 1 (some .boolean) :: wC) B.pre
  have ht : ∀ w ∈ wC, w.before _ s = true := fun w h => hts w (List.mem_cons_of_mem _ h)
  have hown : s.vm.findClass R_WK = some m.cls := findClass_of_methodNamed B.named
  have hlocks := B.notSynchronized
  have hS : va_S (aK ad 51) s.heap s.heap [] := va_S.rf
  have hl := lv_entry ([.ref (ad 12)]) (n := 1) (Nat.le_of_ble_eq_true rfl)
  rw [lg_entry_eq]
  generalize (lg_sl ([.ref (ad 12)]) ++ List.replicate (1 - (lg_sl ([.ref (ad 12)])).length) Slot.unset).toArray = ls at hl ⊢
  have hl : lv_has ls 1 [(0, .ref (ad 12))] := hl
  unfold wp_WK_mayEnter at hq
  have hh8 : 8 < 9 := by decide
  refine lv_aload_n hx hb d_WK_mayEnter_0 rfl (lv_at hl 0 rfl) ?_
  refine cw_get (C := R_WK) (T := F_WK) (N := 13) (v := .int (gI σ 6)) hx hb hts (in_WK _) hown hK hP 12 (by decide) rfl rfl 11 (by decide) (ht _ wC_198) rfl d_WK_mayEnter_1 ?_
  refine lv_bipush (v := 8) hx hb d_WK_mayEnter_4 (by decide) ?_
  refine lv_icmp_ne (tgt := 17) hx hb d_WK_mayEnter_6 (by decide) (fun c1 => ?_) (fun c1 => ?_)
  · have hq := hq.2 c1
    refine lv_aload_n hx hb d_WK_mayEnter_17 rfl (lv_at hl 0 rfl) ?_
    refine lv_dup hx hb d_WK_mayEnter_18 rfl ?_
    refine cw_get (C := R_WK) (T := F_WK) (N := 13) (v := .int (gI σ 6)) hx hb hts (in_WK _) hown hK hP 12 (by decide) rfl rfl 11 (by decide) (ht _ wC_198) rfl d_WK_mayEnter_19 ?_
    refine lv_iconst (v := 1) hx hb d_WK_mayEnter_22 (by decide) ?_
    refine lv_iadd hx hb d_WK_mayEnter_23 ?_
    refine cw_put (C := R_WK) (T := F_WK) (N := 13) (ty := .int) (v := .int ((gI σ 6) + 1)) hx hb hts (in_WK _) t_WK tok_WK n_WK hown hK hP hi hS 12 (by decide) rfl rfl 11 (by decide) (ht _ wC_198) rfl (by decide +kernel) rfl rfl (Nat.le_of_ble_eq_true rfl) up_WK_openEnvironments d_WK_mayEnter_24 (fun H locs hP hS => ?_)
    obtain ⟨s2, e_s2⟩ : ∃ z, z = sI σ 6 ((gI σ 6) + 1) := ⟨_, rfl⟩
    rw [← e_s2] at hP
    have hq := hq s2 e_s2
    refine lv_aload_n hx hb d_WK_mayEnter_27 rfl (lv_at hl 0 rfl) ?_
    refine lv_aload_n hx hb d_WK_mayEnter_28 rfl (lv_at hl 0 rfl) ?_
    refine cw_get (C := R_WK) (T := F_WK) (N := 13) (v := .int (gI s2 3)) hx hb hts (in_WK _) hown hK hP 12 (by decide) rfl rfl 3 (by decide) (ht _ wC_188) rfl d_WK_mayEnter_29 ?_
    refine lv_aload_n hx hb d_WK_mayEnter_32 rfl (lv_at hl 0 rfl) ?_
    refine cw_get (C := R_WK) (T := F_WK) (N := 13) (v := .int (gI s2 6)) hx hb hts (in_WK _) hown hK hP 12 (by decide) rfl rfl 11 (by decide) (ht _ wC_198) rfl d_WK_mayEnter_33 ?_
    refine va_mmax hx hb (by rw [hml]; exact hl.1.symm) hown (ht _ wC_476) (ht _ wC_477) (ht _ wC_56) (ht _ wC_478) (show 1 ≤ 1 by omega) (show _ ≤ 32 by simp only [List.map_cons, List.map_nil, List.sum_cons, List.sum_nil, Value.category]; omega) (Nat.le_refl _) (Nat.le_refl _) d_WK_mayEnter_36 ?_
    refine cw_put (C := R_WK) (T := F_WK) (N := 13) (ty := .int) (v := .int (if (gI s2 3) < (gI s2 6) then (gI s2 6) else (gI s2 3))) hx hb hts (in_WK _) t_WK tok_WK n_WK hown hK hP hi hS 12 (by decide) rfl rfl 3 (by decide) (ht _ wC_188) rfl (by decide +kernel) rfl rfl (Nat.le_of_ble_eq_true rfl) up_WK_mostEnvironments d_WK_mayEnter_39 (fun H locs hP hS => ?_)
    obtain ⟨s3, e_s3⟩ : ∃ z, z = sI s2 3 (if (gI s2 3) < (gI s2 6) then (gI s2 6) else (gI s2 3)) := ⟨_, rfl⟩
    rw [← e_s3] at hP
    have hq := hq s3 e_s3
    refine lv_iconst (v := 1) hx hb d_WK_mayEnter_42 (by decide) ?_
    exact W.zret hx hb hr rfl (fun t ht hW => ⟨⟨1, s3, rfl, hq, by rw [ht]; exact hP, va_K.moved hW.alike hK, hN.warm hW⟩, hS.F ht⟩) hS.2.2 d_WK_mayEnter_43
  · have hq := hq.1 c1
    refine lv_aload_n hx hb d_WK_mayEnter_9 rfl (lv_at hl 0 rfl) ?_
    refine lv_bipush (v := 7) hx hb d_WK_mayEnter_10 (by decide) ?_
    refine cw_put (C := R_WK) (T := F_WK) (N := 13) (ty := .int) (v := .int 7) hx hb hts (in_WK _) t_WK tok_WK n_WK hown hK hP hi hS 12 (by decide) rfl rfl 1 (by decide) (ht _ wC_184) rfl (by decide +kernel) rfl rfl (Nat.le_of_ble_eq_true rfl) up_WK_fault d_WK_mayEnter_12 (fun H locs hP hS => ?_)
    obtain ⟨s4, e_s4⟩ : ∃ z, z = sI σ 1 7 := ⟨_, rfl⟩
    rw [← e_s4] at hP
    have hq := hq s4 e_s4
    refine lv_iconst (v := 0) hx hb d_WK_mayEnter_15 (by decide) ?_
    exact W.zret hx hb hr rfl (fun t ht hW => ⟨⟨0, s4, rfl, hq, by rw [ht]; exact hP, va_K.moved hW.alike hK, hN.warm hW⟩, hS.F ht⟩) hS.2.2 d_WK_mayEnter_16
def wp_WK_elementAt (p1 : Int64) (p2 : Int64) (σ : CS) (Q : UInt64 → CS → Prop) : Prop := (wp_ST_holds p1 p2 σ (fun r1 s2 => ((r1 = 0 → (wp_WK_fail 3 s2 (fun r4 s5 => Q r4 s5))) ∧ (¬ r1 = 0 → (wp_ST_place p1 p2 s2 (fun r6 s7 => (vp_in r6 25 ∧ Q (gD s7 1 r6.toNatClampNeg) s7)))))))
set_option maxHeartbeats 4000000 in
set_option maxRecDepth 100000 in
theorem c_WK_elementAt {l : Launch} {D : va_G} {cs : CI} {ad : Nat → Nat} (hi : aI ad 51) {p1 : Int64} {p2 : Int64} {σ : CS} {Q : UInt64 → CS → Prop} (hq : wp_WK_elementAt p1 p2 σ Q) : Met l y_WK_elementAt (.code y_WK_elementAt b_WK_elementAt 5 (some .double) :: wC) ({ frames := 1, cells := 0, slots := 0, locals := 24 }) (va_Pc [.ref (ad 12), .long p1, .long p2] (cP D cs ad σ)) (va_Qd Q (cP D cs ad) (aK ad 51)) 0 0 (aK ad 51) := by
  refine Met.ofW (cc := b_WK_elementAt) (maxL := 5) (ret := (some .double)) (by decide) rfl ?_
  intro p e s m args below meth c s₁ B hml hv
  obtain ⟨rfl, hP, hK, hN⟩ := hv
  have hx := B.exec
  have hb := B.bytes
  have hr := B.returns
  have hts := atoms_spec (ws := .code y_WK_elementAt b_WK_elementAt 5 (some .double) :: wC) B.pre
  have ht : ∀ w ∈ wC, w.before _ s = true := fun w h => hts w (List.mem_cons_of_mem _ h)
  have hown : s.vm.findClass R_WK = some m.cls := findClass_of_methodNamed B.named
  have hlocks := B.notSynchronized
  have hS : va_S (aK ad 51) s.heap s.heap [] := va_S.rf
  have hl := lv_entry ([.ref (ad 12), .long p1, .long p2]) (n := 5) (Nat.le_of_ble_eq_true rfl)
  rw [lg_entry_eq]
  generalize (lg_sl ([.ref (ad 12), .long p1, .long p2]) ++ List.replicate (5 - (lg_sl ([.ref (ad 12), .long p1, .long p2])).length) Slot.unset).toArray = ls at hl ⊢
  have hl : lv_has ls 5 [(0, .ref (ad 12)), (1, .long p1), (3, .long p2)] := hl
  unfold wp_WK_elementAt at hq
  have hh8 : 8 < 9 := by decide
  refine lv_aload_n hx hb d_WK_elementAt_0 rfl (lv_at hl 0 rfl) ?_
  refine cw_get (C := R_WK) (T := F_WK) (N := 13) (v := .ref (ad 9)) hx hb hts (in_WK _) hown hK hP 12 (by decide) rfl rfl 6 (by decide) (ht _ wC_193) rfl d_WK_elementAt_1 ?_
  refine lv_lload_n hx hb d_WK_elementAt_4 rfl (lv_at hl 1 rfl) ?_
  refine lv_lload_n hx hb d_WK_elementAt_5 rfl (lv_at hl 2 rfl) ?_
  refine va_calli (va_runV (As := [.long p1, .long p2]) (rest := []) ⟨hx, hb, hml, hown, hts⟩ (c_ST_holds (D := D) (cs := cs) hi hq) (cwV 2 hts (good_V wC_522 wC_523 wC_524 wC_47 wC_525) rfl rfl rfl (by decide +kernel) ⟨(show 0 + 1 ≤ 1 by omega), (show 8 + (5 + 11) + 0 ≤ 24 by omega)⟩) ⟨cP_blind, va_recv hK hP (ci := 3) (q0 := 9) rfl (wd_at (by decide) rfl), fun U hU hW => ⟨rfl, by rw [hU]; exact hP, va_K.moved hW.alike hK, hN.warm hW⟩⟩ rfl rfl hl.1 rfl (lv_room (Nat.le_of_ble_eq_true rfl)) d_WK_elementAt_6 ⟨Nat.le_of_ble_eq_true rfl, Nat.le_of_ble_eq_true rfl⟩) hS (fun q _ h => h) (fun q h => h) (fun r1 s2 t H locs ht0 hvm hq hB hz1 hk1 hS => ?_)
  obtain ⟨hP, -, -⟩ := hB
  rw [ht0] at hP
  refine lv_if_eq (tgt := 32) hx hb d_WK_elementAt_9 (by decide) (fun c3 => ?_) (fun c3 => ?_)
  · have hq := hq.1 c3
    refine lv_aload_n hx hb d_WK_elementAt_32 rfl (lv_at hl 0 rfl) ?_
    refine lv_iconst (v := 3) hx hb d_WK_elementAt_33 (by decide) ?_
    refine va_calld (va_runV (As := [.int 3]) (rest := []) ⟨hx, hb, hml, hown, hts⟩ (c_WK_fail (D := D) (cs := cs) hi hq) (cwV 1 hts (good_V wC_464 wC_466 wC_7 wC_48 wC_467) rfl rfl rfl (by decide +kernel) ⟨(show 0 + 1 ≤ 1 by omega), (show 8 + (2 + 11) + 0 ≤ 24 by omega)⟩) ⟨cP_blind, va_recv hK hP (ci := 4) (q0 := 12) rfl (wd_at (by decide) rfl), fun U hU hW => ⟨rfl, by rw [hU]; exact hP, va_K.moved hW.alike hK, hN.warm hW⟩⟩ rfl rfl hl.1 rfl (lv_room (Nat.le_of_ble_eq_true rfl)) d_WK_elementAt_34 ⟨Nat.le_of_ble_eq_true rfl, Nat.le_of_ble_eq_true rfl⟩) hS (fun q _ h => h) (fun q h => h) (fun r4 s5 t H locs ht0 hvm hq hB hz1 hk1 hS => ?_)
    obtain ⟨hP, -, -⟩ := hB
    rw [ht0] at hP
    exact W.dret hx hb hr (fun t ht hW => ⟨⟨r4, s5, rfl, hq, by rw [ht]; exact hP, va_K.moved hW.alike hK, hN.warm hW⟩, hS.F ht⟩) hS.2.2 d_WK_elementAt_37
  · have hq := hq.2 c3
    refine lv_aload_n hx hb d_WK_elementAt_12 rfl (lv_at hl 0 rfl) ?_
    refine cw_get (C := R_WK) (T := F_WK) (N := 13) (v := .ref (ad 9)) hx hb hts (in_WK _) hown hK hP 12 (by decide) rfl rfl 6 (by decide) (ht _ wC_193) rfl d_WK_elementAt_13 ?_
    refine cw_get (C := R_ST) (T := F_ST) (N := 6) (v := .ref (ad 11)) hx hb hts (in_ST _) hown hK hP 9 (by decide) rfl rfl 1 (by decide) (ht _ wC_127) rfl d_WK_elementAt_16 ?_
    refine lv_aload_n hx hb d_WK_elementAt_19 rfl (lv_at hl 0 rfl) ?_
    refine cw_get (C := R_WK) (T := F_WK) (N := 13) (v := .ref (ad 9)) hx hb hts (in_WK _) hown hK hP 12 (by decide) rfl rfl 6 (by decide) (ht _ wC_193) rfl d_WK_elementAt_20 ?_
    refine lv_lload_n hx hb d_WK_elementAt_23 rfl (lv_at hl 1 rfl) ?_
    refine lv_lload_n hx hb d_WK_elementAt_24 rfl (lv_at hl 2 rfl) ?_
    refine va_calli (va_runV (As := [.long p1, .long p2]) (rest := [.ref (ad 11)]) ⟨hx, hb, hml, hown, hts⟩ (c_ST_place (D := D) (cs := cs) hi hq) (cwV 2 hts (good_V wC_526 wC_527 wC_528 wC_47 wC_529) rfl rfl rfl (by decide +kernel) ⟨(show 0 + 1 ≤ 1 by omega), (show 8 + (5 + 11) + 0 ≤ 24 by omega)⟩) ⟨cP_blind, va_recv hK hP (ci := 3) (q0 := 9) rfl (wd_at (by decide) rfl), fun U hU hW => ⟨rfl, by rw [hU]; exact hP, va_K.moved hW.alike hK, hN.warm hW⟩⟩ rfl rfl hl.1 rfl (lv_room (Nat.le_of_ble_eq_true rfl)) d_WK_elementAt_25 ⟨Nat.le_of_ble_eq_true rfl, Nat.le_of_ble_eq_true rfl⟩) hS (fun q _ h => h) (fun q h => h) (fun r6 s7 t H locs ht0 hvm hq hB hz1 hk1 hS => ?_)
    obtain ⟨hP, -, -⟩ := hB
    rw [ht0] at hP
    refine cw_dald hx hb hK hP 11 (by decide) rfl 1 rfl hq.1 d_WK_elementAt_28 ?_
    have hq := hq.2
    refine lv_goto (tgt := 37) hx hb d_WK_elementAt_29 (by decide) ?_
    exact W.dret hx hb hr (fun t ht hW => ⟨⟨(gD s7 1 r6.toNatClampNeg), s7, rfl, hq, by rw [ht]; exact hP, va_K.moved hW.alike hK, hN.warm hW⟩, hS.F ht⟩) hS.2.2 d_WK_elementAt_37
def wp_WK_limited (p1 : UInt64) (σ : CS) (Q : UInt64 → CS → Prop) : Prop := (wp_NF_isWithinSize p1 σ (fun r1 s2 => ((r1 = 0 → (wp_WK_fail 2 s2 (fun r4 s5 => Q r4 s5))) ∧ (¬ r1 = 0 → Q p1 s2))))
set_option maxHeartbeats 4000000 in
set_option maxRecDepth 100000 in
theorem c_WK_limited {l : Launch} {D : va_G} {cs : CI} {ad : Nat → Nat} (hi : aI ad 51) {p1 : UInt64} {σ : CS} {Q : UInt64 → CS → Prop} (hq : wp_WK_limited p1 σ Q) : Met l y_WK_limited (.code y_WK_limited b_WK_limited 3 (some .double) :: wC) ({ frames := 1, cells := 0, slots := 0, locals := 21 }) (va_Pc [.ref (ad 12), .double p1] (cP D cs ad σ)) (va_Qd Q (cP D cs ad) (aK ad 51)) 0 0 (aK ad 51) := by
  refine Met.ofW (cc := b_WK_limited) (maxL := 3) (ret := (some .double)) (by decide) rfl ?_
  intro p e s m args below meth c s₁ B hml hv
  obtain ⟨rfl, hP, hK, hN⟩ := hv
  have hx := B.exec
  have hb := B.bytes
  have hr := B.returns
  have hts := atoms_spec (ws := .code y_WK_limited b_WK_limited 3 (some .double) :: wC) B.pre
  have ht : ∀ w ∈ wC, w.before _ s = true := fun w h => hts w (List.mem_cons_of_mem _ h)
  have hown : s.vm.findClass R_WK = some m.cls := findClass_of_methodNamed B.named
  have hlocks := B.notSynchronized
  have hS : va_S (aK ad 51) s.heap s.heap [] := va_S.rf
  have hl := lv_entry ([.ref (ad 12), .double p1]) (n := 3) (Nat.le_of_ble_eq_true rfl)
  rw [lg_entry_eq]
  generalize (lg_sl ([.ref (ad 12), .double p1]) ++ List.replicate (3 - (lg_sl ([.ref (ad 12), .double p1])).length) Slot.unset).toArray = ls at hl ⊢
  have hl : lv_has ls 3 [(0, .ref (ad 12)), (1, .double p1)] := hl
  unfold wp_WK_limited at hq
  have hh8 : 8 < 9 := by decide
  refine lv_dload_n hx hb d_WK_limited_0 rfl (lv_at hl 1 rfl) ?_
  refine va_calli (va_runSN (As := [.double p1]) (rest := []) ⟨hx, hb, hml, hown, hts⟩ (c_NF_isWithinSize (D := D) (cs := cs) hi hq) (⟨va_cnB 1 hts (good_C wC_411) rfl rfl rfl (hN _ wN_566) (ht _ wC_44) (by decide +kernel) ⟨(show 0 + 1 ≤ 1 by omega), (show 8 + (2 + 11) + 0 ≤ 21 by omega)⟩, (ht _ wC_410), trivial⟩) ⟨cP_blind, fun U hU hW => ⟨rfl, by rw [hU]; exact hP, va_K.moved hW.alike hK, hN.warm hW⟩⟩ rfl rfl hl.1 rfl (lv_room (Nat.le_of_ble_eq_true rfl)) d_WK_limited_1 ⟨Nat.le_of_ble_eq_true rfl, Nat.le_of_ble_eq_true rfl⟩) hS (fun q _ h => h) (fun q h => h) (fun r1 s2 t H locs ht0 hvm hq hB hz1 hk1 hS => ?_)
  obtain ⟨hP, -, -⟩ := hB
  rw [ht0] at hP
  refine lv_if_eq (tgt := 11) hx hb d_WK_limited_4 (by decide) (fun c3 => ?_) (fun c3 => ?_)
  · have hq := hq.1 c3
    refine lv_aload_n hx hb d_WK_limited_11 rfl (lv_at hl 0 rfl) ?_
    refine lv_iconst (v := 2) hx hb d_WK_limited_12 (by decide) ?_
    refine va_calld (va_runV (As := [.int 2]) (rest := []) ⟨hx, hb, hml, hown, hts⟩ (c_WK_fail (D := D) (cs := cs) hi hq) (cwV 1 hts (good_V wC_464 wC_466 wC_7 wC_48 wC_467) rfl rfl rfl (by decide +kernel) ⟨(show 0 + 1 ≤ 1 by omega), (show 8 + (2 + 11) + 0 ≤ 21 by omega)⟩) ⟨cP_blind, va_recv hK hP (ci := 4) (q0 := 12) rfl (wd_at (by decide) rfl), fun U hU hW => ⟨rfl, by rw [hU]; exact hP, va_K.moved hW.alike hK, hN.warm hW⟩⟩ rfl rfl hl.1 rfl (lv_room (Nat.le_of_ble_eq_true rfl)) d_WK_limited_13 ⟨Nat.le_of_ble_eq_true rfl, Nat.le_of_ble_eq_true rfl⟩) hS (fun q _ h => h) (fun q h => h) (fun r4 s5 t H locs ht0 hvm hq hB hz1 hk1 hS => ?_)
    obtain ⟨hP, -, -⟩ := hB
    rw [ht0] at hP
    exact W.dret hx hb hr (fun t ht hW => ⟨⟨r4, s5, rfl, hq, by rw [ht]; exact hP, va_K.moved hW.alike hK, hN.warm hW⟩, hS.F ht⟩) hS.2.2 d_WK_limited_16
  · have hq := hq.2 c3
    refine lv_dload_n hx hb d_WK_limited_7 rfl (lv_at hl 1 rfl) ?_
    refine lv_goto (tgt := 16) hx hb d_WK_limited_8 (by decide) ?_
    exact W.dret hx hb hr (fun t ht hW => ⟨⟨p1, s2, rfl, hq, by rw [ht]; exact hP, va_K.moved hW.alike hK, hN.warm hW⟩, hS.F ht⟩) hS.2.2 d_WK_limited_16
def wp_WK_quotient (p1 : Int64) (p2 : Int64) (σ : CS) (Q : UInt64 → CS → Prop) : Prop := (((lg_cmp p2 0) = 0 → (wp_WK_fail 1 σ (fun r2 s3 => Q r2 s3))) ∧ (¬ (lg_cmp p2 0) = 0 → (¬ p2 = 0 ∧ Q (FP.l2d (p1 / p2)) σ)))
set_option maxHeartbeats 4000000 in
set_option maxRecDepth 100000 in
theorem c_WK_quotient {l : Launch} {D : va_G} {cs : CI} {ad : Nat → Nat} (hi : aI ad 51) {p1 : Int64} {p2 : Int64} {σ : CS} {Q : UInt64 → CS → Prop} (hq : wp_WK_quotient p1 p2 σ Q) : Met l y_WK_quotient (.code y_WK_quotient b_WK_quotient 5 (some .double) :: wC) ({ frames := 1, cells := 0, slots := 0, locals := 21 }) (va_Pc [.ref (ad 12), .long p1, .long p2] (cP D cs ad σ)) (va_Qd Q (cP D cs ad) (aK ad 51)) 0 0 (aK ad 51) := by
  refine Met.ofW (cc := b_WK_quotient) (maxL := 5) (ret := (some .double)) (by decide) rfl ?_
  intro p e s m args below meth c s₁ B hml hv
  obtain ⟨rfl, hP, hK, hN⟩ := hv
  have hx := B.exec
  have hb := B.bytes
  have hr := B.returns
  have hts := atoms_spec (ws := .code y_WK_quotient b_WK_quotient 5 (some .double) :: wC) B.pre
  have ht : ∀ w ∈ wC, w.before _ s = true := fun w h => hts w (List.mem_cons_of_mem _ h)
  have hown : s.vm.findClass R_WK = some m.cls := findClass_of_methodNamed B.named
  have hlocks := B.notSynchronized
  have hS : va_S (aK ad 51) s.heap s.heap [] := va_S.rf
  have hl := lv_entry ([.ref (ad 12), .long p1, .long p2]) (n := 5) (Nat.le_of_ble_eq_true rfl)
  rw [lg_entry_eq]
  generalize (lg_sl ([.ref (ad 12), .long p1, .long p2]) ++ List.replicate (5 - (lg_sl ([.ref (ad 12), .long p1, .long p2])).length) Slot.unset).toArray = ls at hl ⊢
  have hl : lv_has ls 5 [(0, .ref (ad 12)), (1, .long p1), (3, .long p2)] := hl
  unfold wp_WK_quotient at hq
  have hh8 : 8 < 9 := by decide
  refine lv_lload_n hx hb d_WK_quotient_0 rfl (lv_at hl 2 rfl) ?_
  refine lv_lconst (v := 0) hx hb d_WK_quotient_1 (by decide) ?_
  refine W.lcmp hx hb d_WK_quotient_2 ?_
  refine lv_if_ne (tgt := 14) hx hb d_WK_quotient_3 (by decide) (fun c1 => ?_) (fun c1 => ?_)
  · have hq := hq.2 c1
    refine lv_lload_n hx hb d_WK_quotient_14 rfl (lv_at hl 1 rfl) ?_
    refine lv_lload_n hx hb d_WK_quotient_15 rfl (lv_at hl 2 rfl) ?_
    refine lv_ldiv hx hb d_WK_quotient_16 hq.1 ?_
    have hq := hq.2
    refine lv_l2d hx hb d_WK_quotient_17 ?_
    exact W.dret hx hb hr (fun t ht hW => ⟨⟨(FP.l2d (p1 / p2)), σ, rfl, hq, by rw [ht]; exact hP, va_K.moved hW.alike hK, hN.warm hW⟩, hS.F ht⟩) hS.2.2 d_WK_quotient_18
  · have hq := hq.1 c1
    refine lv_aload_n hx hb d_WK_quotient_6 rfl (lv_at hl 0 rfl) ?_
    refine lv_iconst (v := 1) hx hb d_WK_quotient_7 (by decide) ?_
    refine va_calld (va_runV (As := [.int 1]) (rest := []) ⟨hx, hb, hml, hown, hts⟩ (c_WK_fail (D := D) (cs := cs) hi hq) (cwV 1 hts (good_V wC_464 wC_466 wC_7 wC_48 wC_467) rfl rfl rfl (by decide +kernel) ⟨(show 0 + 1 ≤ 1 by omega), (show 8 + (2 + 11) + 0 ≤ 21 by omega)⟩) ⟨cP_blind, va_recv hK hP (ci := 4) (q0 := 12) rfl (wd_at (by decide) rfl), fun U hU hW => ⟨rfl, by rw [hU]; exact hP, va_K.moved hW.alike hK, hN.warm hW⟩⟩ rfl rfl hl.1 rfl (lv_room (Nat.le_of_ble_eq_true rfl)) d_WK_quotient_8 ⟨Nat.le_of_ble_eq_true rfl, Nat.le_of_ble_eq_true rfl⟩) hS (fun q _ h => h) (fun q h => h) (fun r2 s3 t H locs ht0 hvm hq hB hz1 hk1 hS => ?_)
    obtain ⟨hP, -, -⟩ := hB
    rw [ht0] at hP
    refine lv_goto (tgt := 18) hx hb d_WK_quotient_11 (by decide) ?_
    exact W.dret hx hb hr (fun t ht hW => ⟨⟨r2, s3, rfl, hq, by rw [ht]; exact hP, va_K.moved hW.alike hK, hN.warm hW⟩, hS.F ht⟩) hS.2.2 d_WK_quotient_18
def wp_WK_elementBecomes (p1 : Int64) (p2 : Int64) (p3 : UInt64) (σ : CS) (Q : UInt64 → CS → Prop) : Prop := (wp_ST_holds p1 p2 σ (fun r1 s2 => ((r1 = 0 → (wp_WK_fail 3 s2 (fun r7 s8 => Q r7 s8))) ∧ (¬ r1 = 0 → (wp_ST_place p1 p2 s2 (fun r4 s5 => (vp_in r4 25 ∧ (∀ s6 : CS, s6 = sD s5 1 (vf_upd (gD s5 1) r4.toNatClampNeg p3) → Q p3 s6))))))))
set_option maxHeartbeats 4000000 in
set_option maxRecDepth 100000 in
theorem c_WK_elementBecomes {l : Launch} {D : va_G} {cs : CI} {ad : Nat → Nat} (hi : aI ad 51) {p1 : Int64} {p2 : Int64} {p3 : UInt64} {σ : CS} {Q : UInt64 → CS → Prop} (hq : wp_WK_elementBecomes p1 p2 p3 σ Q) : Met l y_WK_elementBecomes (.code y_WK_elementBecomes b_WK_elementBecomes 7 (some .double) :: wC) ({ frames := 1, cells := 0, slots := 0, locals := 24 }) (va_Pc [.ref (ad 12), .long p1, .long p2, .double p3] (cP D cs ad σ)) (va_Qd Q (cP D cs ad) (aK ad 51)) 0 0 (aK ad 51) := by
  refine Met.ofW (cc := b_WK_elementBecomes) (maxL := 7) (ret := (some .double)) (by decide) rfl ?_
  intro p e s m args below meth c s₁ B hml hv
  obtain ⟨rfl, hP, hK, hN⟩ := hv
  have hx := B.exec
  have hb := B.bytes
  have hr := B.returns
  have hts := atoms_spec (ws := .code y_WK_elementBecomes b_WK_elementBecomes 7 (some .double) :: wC) B.pre
  have ht : ∀ w ∈ wC, w.before _ s = true := fun w h => hts w (List.mem_cons_of_mem _ h)
  have hown : s.vm.findClass R_WK = some m.cls := findClass_of_methodNamed B.named
  have hlocks := B.notSynchronized
  have hS : va_S (aK ad 51) s.heap s.heap [] := va_S.rf
  have hl := lv_entry ([.ref (ad 12), .long p1, .long p2, .double p3]) (n := 7) (Nat.le_of_ble_eq_true rfl)
  rw [lg_entry_eq]
  generalize (lg_sl ([.ref (ad 12), .long p1, .long p2, .double p3]) ++ List.replicate (7 - (lg_sl ([.ref (ad 12), .long p1, .long p2, .double p3])).length) Slot.unset).toArray = ls at hl ⊢
  have hl : lv_has ls 7 [(0, .ref (ad 12)), (1, .long p1), (3, .long p2), (5, .double p3)] := hl
  unfold wp_WK_elementBecomes at hq
  have hh8 : 8 < 9 := by decide
  refine lv_aload_n hx hb d_WK_elementBecomes_0 rfl (lv_at hl 0 rfl) ?_
  refine cw_get (C := R_WK) (T := F_WK) (N := 13) (v := .ref (ad 9)) hx hb hts (in_WK _) hown hK hP 12 (by decide) rfl rfl 6 (by decide) (ht _ wC_193) rfl d_WK_elementBecomes_1 ?_
  refine lv_lload_n hx hb d_WK_elementBecomes_4 rfl (lv_at hl 1 rfl) ?_
  refine lv_lload_n hx hb d_WK_elementBecomes_5 rfl (lv_at hl 2 rfl) ?_
  refine va_calli (va_runV (As := [.long p1, .long p2]) (rest := []) ⟨hx, hb, hml, hown, hts⟩ (c_ST_holds (D := D) (cs := cs) hi hq) (cwV 2 hts (good_V wC_522 wC_523 wC_524 wC_47 wC_525) rfl rfl rfl (by decide +kernel) ⟨(show 0 + 1 ≤ 1 by omega), (show 8 + (5 + 11) + 0 ≤ 24 by omega)⟩) ⟨cP_blind, va_recv hK hP (ci := 3) (q0 := 9) rfl (wd_at (by decide) rfl), fun U hU hW => ⟨rfl, by rw [hU]; exact hP, va_K.moved hW.alike hK, hN.warm hW⟩⟩ rfl rfl hl.1 rfl (lv_room (Nat.le_of_ble_eq_true rfl)) d_WK_elementBecomes_6 ⟨Nat.le_of_ble_eq_true rfl, Nat.le_of_ble_eq_true rfl⟩) hS (fun q _ h => h) (fun q h => h) (fun r1 s2 t H locs ht0 hvm hq hB hz1 hk1 hS => ?_)
  obtain ⟨hP, -, -⟩ := hB
  rw [ht0] at hP
  refine lv_if_ne (tgt := 18) hx hb d_WK_elementBecomes_9 (by decide) (fun c3 => ?_) (fun c3 => ?_)
  · have hq := hq.2 c3
    refine lv_aload_n hx hb d_WK_elementBecomes_18 rfl (lv_at hl 0 rfl) ?_
    refine cw_get (C := R_WK) (T := F_WK) (N := 13) (v := .ref (ad 9)) hx hb hts (in_WK _) hown hK hP 12 (by decide) rfl rfl 6 (by decide) (ht _ wC_193) rfl d_WK_elementBecomes_19 ?_
    refine cw_get (C := R_ST) (T := F_ST) (N := 6) (v := .ref (ad 11)) hx hb hts (in_ST _) hown hK hP 9 (by decide) rfl rfl 1 (by decide) (ht _ wC_127) rfl d_WK_elementBecomes_22 ?_
    refine lv_aload_n hx hb d_WK_elementBecomes_25 rfl (lv_at hl 0 rfl) ?_
    refine cw_get (C := R_WK) (T := F_WK) (N := 13) (v := .ref (ad 9)) hx hb hts (in_WK _) hown hK hP 12 (by decide) rfl rfl 6 (by decide) (ht _ wC_193) rfl d_WK_elementBecomes_26 ?_
    refine lv_lload_n hx hb d_WK_elementBecomes_29 rfl (lv_at hl 1 rfl) ?_
    refine lv_lload_n hx hb d_WK_elementBecomes_30 rfl (lv_at hl 2 rfl) ?_
    refine va_calli (va_runV (As := [.long p1, .long p2]) (rest := [.ref (ad 11)]) ⟨hx, hb, hml, hown, hts⟩ (c_ST_place (D := D) (cs := cs) hi hq) (cwV 2 hts (good_V wC_526 wC_527 wC_528 wC_47 wC_529) rfl rfl rfl (by decide +kernel) ⟨(show 0 + 1 ≤ 1 by omega), (show 8 + (5 + 11) + 0 ≤ 24 by omega)⟩) ⟨cP_blind, va_recv hK hP (ci := 3) (q0 := 9) rfl (wd_at (by decide) rfl), fun U hU hW => ⟨rfl, by rw [hU]; exact hP, va_K.moved hW.alike hK, hN.warm hW⟩⟩ rfl rfl hl.1 rfl (lv_room (Nat.le_of_ble_eq_true rfl)) d_WK_elementBecomes_31 ⟨Nat.le_of_ble_eq_true rfl, Nat.le_of_ble_eq_true rfl⟩) hS (fun q _ h => h) (fun q h => h) (fun r4 s5 t H locs ht0 hvm hq hB hz1 hk1 hS => ?_)
    obtain ⟨hP, -, -⟩ := hB
    rw [ht0] at hP
    refine lv_dload hx hb d_WK_elementBecomes_34 (lv_at hl 3 rfl) ?_
    refine cw_dast hx hb hK hP hi hS 11 (by decide) rfl 1 rfl hq.1 upd_1 d_WK_elementBecomes_36 (fun H locs hP hS => ?_)
    have hq := hq.2
    obtain ⟨s6, e_s6⟩ : ∃ z, z = sD s5 1 (vf_upd (gD s5 1) r4.toNatClampNeg p3) := ⟨_, rfl⟩
    rw [← e_s6] at hP
    have hq := hq s6 e_s6
    refine lv_dload hx hb d_WK_elementBecomes_37 (lv_at hl 3 rfl) ?_
    exact W.dret hx hb hr (fun t ht hW => ⟨⟨p3, s6, rfl, hq, by rw [ht]; exact hP, va_K.moved hW.alike hK, hN.warm hW⟩, hS.F ht⟩) hS.2.2 d_WK_elementBecomes_39
  · have hq := hq.1 c3
    refine lv_aload_n hx hb d_WK_elementBecomes_12 rfl (lv_at hl 0 rfl) ?_
    refine lv_iconst (v := 3) hx hb d_WK_elementBecomes_13 (by decide) ?_
    refine va_calld (va_runV (As := [.int 3]) (rest := []) ⟨hx, hb, hml, hown, hts⟩ (c_WK_fail (D := D) (cs := cs) hi hq) (cwV 1 hts (good_V wC_464 wC_466 wC_7 wC_48 wC_467) rfl rfl rfl (by decide +kernel) ⟨(show 0 + 1 ≤ 1 by omega), (show 8 + (2 + 11) + 0 ≤ 24 by omega)⟩) ⟨cP_blind, va_recv hK hP (ci := 4) (q0 := 12) rfl (wd_at (by decide) rfl), fun U hU hW => ⟨rfl, by rw [hU]; exact hP, va_K.moved hW.alike hK, hN.warm hW⟩⟩ rfl rfl hl.1 rfl (lv_room (Nat.le_of_ble_eq_true rfl)) d_WK_elementBecomes_14 ⟨Nat.le_of_ble_eq_true rfl, Nat.le_of_ble_eq_true rfl⟩) hS (fun q _ h => h) (fun q h => h) (fun r7 s8 t H locs ht0 hvm hq hB hz1 hk1 hS => ?_)
    obtain ⟨hP, -, -⟩ := hB
    rw [ht0] at hP
    exact W.dret hx hb hr (fun t ht hW => ⟨⟨r7, s8, rfl, hq, by rw [ht]; exact hP, va_K.moved hW.alike hK, hN.warm hW⟩, hS.F ht⟩) hS.2.2 d_WK_elementBecomes_17
def wp_WK_localBecomes (p1 : Int32) (p2 : UInt64) (g3 : Nat) (σ : CS) (Q : UInt64 → CS → Prop) : Prop := (g3 < 9 ∧ (wp_EN_hasLocals g3 σ (fun r1 s2 => ((r1 = 0 → (wp_WK_fail 4 s2 (fun r5 s6 => Q r5 s6))) ∧ (¬ r1 = 0 → (vp_in p1 2 ∧ (∀ s4 : CS, s4 = sD s2 (20 + g3) (vf_upd (gD s2 (20 + g3)) p1.toNatClampNeg p2) → Q p2 s4)))))))
set_option maxHeartbeats 4000000 in
set_option maxRecDepth 100000 in
theorem c_WK_localBecomes {l : Launch} {D : va_G} {cs : CI} {ad : Nat → Nat} (hi : aI ad 51) {p1 : Int32} {p2 : UInt64} {g3 : Nat} {σ : CS} {Q : UInt64 → CS → Prop} (hq : wp_WK_localBecomes p1 p2 g3 σ Q) : Met l y_WK_localBecomes (.code y_WK_localBecomes b_WK_localBecomes 5 (some .double) :: wC) ({ frames := 1, cells := 0, slots := 0, locals := 21 }) (va_Pc [.ref (ad 12), .int p1, .double p2, .ref (ad (15 + g3))] (cP D cs ad σ)) (va_Qd Q (cP D cs ad) (aK ad 51)) 0 0 (aK ad 51) := by
  refine Met.ofW (cc := b_WK_localBecomes) (maxL := 5) (ret := (some .double)) (by decide) rfl ?_
  intro p e s m args below meth c s₁ B hml hv
  obtain ⟨rfl, hP, hK, hN⟩ := hv
  have hx := B.exec
  have hb := B.bytes
  have hr := B.returns
  have hts := atoms_spec (ws := .code y_WK_localBecomes b_WK_localBecomes 5 (some .double) :: wC) B.pre
  have ht : ∀ w ∈ wC, w.before _ s = true := fun w h => hts w (List.mem_cons_of_mem _ h)
  have hown : s.vm.findClass R_WK = some m.cls := findClass_of_methodNamed B.named
  have hlocks := B.notSynchronized
  have hS : va_S (aK ad 51) s.heap s.heap [] := va_S.rf
  have hl := lv_entry ([.ref (ad 12), .int p1, .double p2, .ref (ad (15 + g3))]) (n := 5) (Nat.le_of_ble_eq_true rfl)
  rw [lg_entry_eq]
  generalize (lg_sl ([.ref (ad 12), .int p1, .double p2, .ref (ad (15 + g3))]) ++ List.replicate (5 - (lg_sl ([.ref (ad 12), .int p1, .double p2, .ref (ad (15 + g3))])).length) Slot.unset).toArray = ls at hl ⊢
  have hl : lv_has ls 5 [(0, .ref (ad 12)), (1, .int p1), (2, .double p2), (4, .ref (ad (15 + g3)))] := hl
  unfold wp_WK_localBecomes at hq
  have hh_g3 : g3 < 9 := hq.1
  have hq := hq.2
  have hh8 : 8 < 9 := by decide
  refine lv_aload hx hb d_WK_localBecomes_0 (lv_at hl 3 rfl) ?_
  refine va_calli (va_runV (As := []) (rest := []) ⟨hx, hb, hml, hown, hts⟩ (c_EN_hasLocals (D := D) (cs := cs) hi hq) (cwV 0 hts (good_V wC_479 wC_480 wC_481 wC_49 wC_482) rfl rfl rfl (by decide +kernel) ⟨(show 0 + 1 ≤ 1 by omega), (show 8 + (1 + 11) + 0 ≤ 21 by omega)⟩) ⟨cP_blind, va_recv hK hP (ci := 1) (q0 := (15 + g3)) rfl (wd_at (by omega) (ct_o hh_g3)), fun U hU hW => ⟨rfl, by rw [hU]; exact hP, va_K.moved hW.alike hK, hN.warm hW⟩⟩ rfl rfl hl.1 rfl (lv_room (Nat.le_of_ble_eq_true rfl)) d_WK_localBecomes_2 ⟨Nat.le_of_ble_eq_true rfl, Nat.le_of_ble_eq_true rfl⟩) hS (fun q _ h => h) (fun q h => h) (fun r1 s2 t H locs ht0 hvm hq hB hz1 hk1 hS => ?_)
  obtain ⟨hP, -, -⟩ := hB
  rw [ht0] at hP
  refine lv_if_ne (tgt := 14) hx hb d_WK_localBecomes_5 (by decide) (fun c3 => ?_) (fun c3 => ?_)
  · have hq := hq.2 c3
    refine lv_aload hx hb d_WK_localBecomes_14 (lv_at hl 3 rfl) ?_
    refine cw_get (C := R_EN) (T := F_EN) (N := 6) (v := .ref (ad (42 + g3))) hx hb hts (in_EN _) hown hK hP (15 + g3) (by omega) (ct_o hh_g3) rfl 3 (by decide) (ht _ wC_165) rfl d_WK_localBecomes_16 ?_
    refine lv_iload_n hx hb d_WK_localBecomes_19 rfl (lv_at hl 1 rfl) ?_
    refine lv_dload_n hx hb d_WK_localBecomes_20 rfl (lv_at hl 2 rfl) ?_
    refine cw_dast hx hb hK hP hi hS (42 + g3) (by omega) (ct_l hh_g3) 1 rfl hq.1 (upd_20 hh_g3) d_WK_localBecomes_21 (fun H locs hP hS => ?_)
    have hq := hq.2
    obtain ⟨s4, e_s4⟩ : ∃ z, z = sD s2 (20 + g3) (vf_upd (gD s2 (20 + g3)) p1.toNatClampNeg p2) := ⟨_, rfl⟩
    rw [← e_s4] at hP
    have hq := hq s4 e_s4
    refine lv_dload_n hx hb d_WK_localBecomes_22 rfl (lv_at hl 2 rfl) ?_
    exact W.dret hx hb hr (fun t ht hW => ⟨⟨p2, s4, rfl, hq, by rw [ht]; exact hP, va_K.moved hW.alike hK, hN.warm hW⟩, hS.F ht⟩) hS.2.2 d_WK_localBecomes_23
  · have hq := hq.1 c3
    refine lv_aload_n hx hb d_WK_localBecomes_8 rfl (lv_at hl 0 rfl) ?_
    refine lv_iconst (v := 4) hx hb d_WK_localBecomes_9 (by decide) ?_
    refine va_calld (va_runV (As := [.int 4]) (rest := []) ⟨hx, hb, hml, hown, hts⟩ (c_WK_fail (D := D) (cs := cs) hi hq) (cwV 1 hts (good_V wC_464 wC_466 wC_7 wC_48 wC_467) rfl rfl rfl (by decide +kernel) ⟨(show 0 + 1 ≤ 1 by omega), (show 8 + (2 + 11) + 0 ≤ 21 by omega)⟩) ⟨cP_blind, va_recv hK hP (ci := 4) (q0 := 12) rfl (wd_at (by decide) rfl), fun U hU hW => ⟨rfl, by rw [hU]; exact hP, va_K.moved hW.alike hK, hN.warm hW⟩⟩ rfl rfl hl.1 rfl (lv_room (Nat.le_of_ble_eq_true rfl)) d_WK_localBecomes_10 ⟨Nat.le_of_ble_eq_true rfl, Nat.le_of_ble_eq_true rfl⟩) hS (fun q _ h => h) (fun q h => h) (fun r5 s6 t H locs ht0 hvm hq hB hz1 hk1 hS => ?_)
    obtain ⟨hP, -, -⟩ := hB
    rw [ht0] at hP
    exact W.dret hx hb hr (fun t ht hW => ⟨⟨r5, s6, rfl, hq, by rw [ht]; exact hP, va_K.moved hW.alike hK, hN.warm hW⟩, hS.F ht⟩) hS.2.2 d_WK_localBecomes_13
def wp_WK_jump (p1 : Int32) (σ : CS) (Q : UInt64 → CS → Prop) : Prop := (vp_in p1 4 ∧ (((gA σ 7 p1.toNatClampNeg) = 0 → (wp_WK_fail 5 σ (fun r3 s4 => Q r3 s4))) ∧ (¬ (gA σ 7 p1.toNatClampNeg) = 0 → (∀ s2 : CS, s2 = sI σ 7 p1 → Q FP.dconst0 s2))))
set_option maxHeartbeats 4000000 in
set_option maxRecDepth 100000 in
theorem c_WK_jump {l : Launch} {D : va_G} {cs : CI} {ad : Nat → Nat} (hi : aI ad 51) {p1 : Int32} {σ : CS} {Q : UInt64 → CS → Prop} (hq : wp_WK_jump p1 σ Q) : Met l y_WK_jump (.code y_WK_jump b_WK_jump 2 (some .double) :: wC) ({ frames := 1, cells := 0, slots := 0, locals := 21 }) (va_Pc [.ref (ad 12), .int p1] (cP D cs ad σ)) (va_Qd Q (cP D cs ad) (aK ad 51)) 0 0 (aK ad 51) := by
  refine Met.ofW (cc := b_WK_jump) (maxL := 2) (ret := (some .double)) (by decide) rfl ?_
  intro p e s m args below meth c s₁ B hml hv
  obtain ⟨rfl, hP, hK, hN⟩ := hv
  have hx := B.exec
  have hb := B.bytes
  have hr := B.returns
  have hts := atoms_spec (ws := .code y_WK_jump b_WK_jump 2 (some .double) :: wC) B.pre
  have ht : ∀ w ∈ wC, w.before _ s = true := fun w h => hts w (List.mem_cons_of_mem _ h)
  have hown : s.vm.findClass R_WK = some m.cls := findClass_of_methodNamed B.named
  have hlocks := B.notSynchronized
  have hS : va_S (aK ad 51) s.heap s.heap [] := va_S.rf
  have hl := lv_entry ([.ref (ad 12), .int p1]) (n := 2) (Nat.le_of_ble_eq_true rfl)
  rw [lg_entry_eq]
  generalize (lg_sl ([.ref (ad 12), .int p1]) ++ List.replicate (2 - (lg_sl ([.ref (ad 12), .int p1])).length) Slot.unset).toArray = ls at hl ⊢
  have hl : lv_has ls 2 [(0, .ref (ad 12)), (1, .int p1)] := hl
  unfold wp_WK_jump at hq
  have hh8 : 8 < 9 := by decide
  refine lv_aload_n hx hb d_WK_jump_0 rfl (lv_at hl 0 rfl) ?_
  refine cw_get (C := R_WK) (T := F_WK) (N := 13) (v := .ref (ad 13)) hx hb hts (in_WK _) hown hK hP 12 (by decide) rfl rfl 9 (by decide) (ht _ wC_196) rfl d_WK_jump_1 ?_
  refine lv_iload_n hx hb d_WK_jump_4 rfl (lv_at hl 1 rfl) ?_
  refine cw_iald hx hb hK hP 13 (by decide) rfl 0 rfl hq.1 d_WK_jump_5 ?_
  have hq := hq.2
  refine lv_if_ne (tgt := 15) hx hb d_WK_jump_6 (by decide) (fun c1 => ?_) (fun c1 => ?_)
  · have hq := hq.2 c1
    refine lv_aload_n hx hb d_WK_jump_15 rfl (lv_at hl 0 rfl) ?_
    refine lv_iload_n hx hb d_WK_jump_16 rfl (lv_at hl 1 rfl) ?_
    refine cw_put (C := R_WK) (T := F_WK) (N := 13) (ty := .int) (v := .int p1) hx hb hts (in_WK _) t_WK tok_WK n_WK hown hK hP hi hS 12 (by decide) rfl rfl 12 (by decide) (ht _ wC_199) rfl (by decide +kernel) rfl rfl (Nat.le_of_ble_eq_true rfl) up_WK_jumpingTo d_WK_jump_17 (fun H locs hP hS => ?_)
    obtain ⟨s2, e_s2⟩ : ∃ z, z = sI σ 7 p1 := ⟨_, rfl⟩
    rw [← e_s2] at hP
    have hq := hq s2 e_s2
    refine lv_dconst0 hx hb d_WK_jump_20 ?_
    exact W.dret hx hb hr (fun t ht hW => ⟨⟨FP.dconst0, s2, rfl, hq, by rw [ht]; exact hP, va_K.moved hW.alike hK, hN.warm hW⟩, hS.F ht⟩) hS.2.2 d_WK_jump_21
  · have hq := hq.1 c1
    refine lv_aload_n hx hb d_WK_jump_9 rfl (lv_at hl 0 rfl) ?_
    refine lv_iconst (v := 5) hx hb d_WK_jump_10 (by decide) ?_
    refine va_calld (va_runV (As := [.int 5]) (rest := []) ⟨hx, hb, hml, hown, hts⟩ (c_WK_fail (D := D) (cs := cs) hi hq) (cwV 1 hts (good_V wC_464 wC_466 wC_7 wC_48 wC_467) rfl rfl rfl (by decide +kernel) ⟨(show 0 + 1 ≤ 1 by omega), (show 8 + (2 + 11) + 0 ≤ 21 by omega)⟩) ⟨cP_blind, va_recv hK hP (ci := 4) (q0 := 12) rfl (wd_at (by decide) rfl), fun U hU hW => ⟨rfl, by rw [hU]; exact hP, va_K.moved hW.alike hK, hN.warm hW⟩⟩ rfl rfl hl.1 rfl (lv_room (Nat.le_of_ble_eq_true rfl)) d_WK_jump_11 ⟨Nat.le_of_ble_eq_true rfl, Nat.le_of_ble_eq_true rfl⟩) hS (fun q _ h => h) (fun q h => h) (fun r3 s4 t H locs ht0 hvm hq hB hz1 hk1 hS => ?_)
    obtain ⟨hP, -, -⟩ := hB
    rw [ht0] at hP
    exact W.dret hx hb hr (fun t ht hW => ⟨⟨r3, s4, rfl, hq, by rw [ht]; exact hP, va_K.moved hW.alike hK, hN.warm hW⟩, hS.F ht⟩) hS.2.2 d_WK_jump_14
