def wp_MO_thrown  (σ : CS) (Q : Int32 → CS → Prop) : Prop := Q (gI σ 5) σ
set_option maxHeartbeats 4000000 in
set_option maxRecDepth 100000 in
theorem c_MO_thrown {l : Launch} {D : va_G} {cs : CI} {am : Nat → Nat} (hi : aI am 25)  {σ : CS} {Q : Int32 → CS → Prop} (hq : wp_MO_thrown  σ Q) : Met l y_MO_thrown (.code y_MO_thrown b_MO_thrown 1 (some .int) :: wC) ({ frames := 0, cells := 0, slots := 0, locals := 0 }) (va_Pc [.ref (am 0)] (mP D cs am σ)) (va_Qi Q (mP D cs am) (aK am 25)) 0 0 (aK am 25) := by
  refine Met.ofW (cc := b_MO_thrown) (maxL := 1) (ret := (some .int)) (by decide) rfl ?_
  intro p e s m args below meth c s₁ B hml hv
  obtain ⟨rfl, hP, hK, hN⟩ := hv
  have hx := B.exec
  have hb := B.bytes
  have hr := B.returns
  have hts := atoms_spec (ws := .code y_MO_thrown b_MO_thrown 1 (some .int) :: wC) B.pre
  have ht : ∀ w ∈ wC, w.before _ s = true := fun w h => hts w (List.mem_cons_of_mem _ h)
  have hown : s.vm.findClass R_MO = some m.cls := findClass_of_methodNamed B.named
  have hlocks := B.notSynchronized
  have hS : va_S (aK am 25) s.heap s.heap [] := va_S.rf
  have hl := lv_entry ([.ref (am 0)]) (n := 1) (Nat.le_of_ble_eq_true rfl)
  rw [lg_entry_eq]
  generalize (lg_sl ([.ref (am 0)]) ++ List.replicate (1 - (lg_sl ([.ref (am 0)])).length) Slot.unset).toArray = ls at hl ⊢
  have hl : lv_has ls 1 [(0, .ref (am 0))] := hl
  unfold wp_MO_thrown at hq
  have hh8 : 8 < 9 := by decide
  refine lv_aload_n hx hb d_MO_thrown_0 rfl (lv_at hl 0 rfl) ?_
  refine cw_get (C := R_MO) (T := F_MO) (N := 39) (v := .int (gI σ 5)) hx hb hts (in_MO _) hown hK hP 0 (by decide) rfl rfl 14 (by decide) (ht _ wC_696) rfl d_MO_thrown_1 ?_
  exact W.iret hx hb hr (fun t ht hW => ⟨⟨(gI σ 5), σ, rfl, hq, by rw [ht]; exact hP, va_K.moved hW.alike hK, hN.warm hW⟩, hS.F ht⟩) hS.2.2 d_MO_thrown_4
def wp_MO_within (p1 : Int32) (p2 : Int32) (p3 : Int32) (σ : CS) (Q : Int32 → CS → Prop) : Prop := ((p1 < p2 → Q 0 σ) ∧ (¬ p1 < p2 → ((p3 < p1 → Q 0 σ) ∧ (¬ p3 < p1 → Q 1 σ))))
set_option maxHeartbeats 4000000 in
set_option maxRecDepth 100000 in
theorem c_MO_within {l : Launch} {D : va_G} {cs : CI} {am : Nat → Nat} (hi : aI am 25) {p1 : Int32} {p2 : Int32} {p3 : Int32} {σ : CS} {Q : Int32 → CS → Prop} (hq : wp_MO_within p1 p2 p3 σ Q) : Met l y_MO_within (.code y_MO_within b_MO_within 3 (some .boolean) :: wC) ({ frames := 0, cells := 0, slots := 0, locals := 0 }) (va_Pc [.int p1, .int p2, .int p3] (mP D cs am σ)) (va_Qi Q (mP D cs am) (aK am 25)) 0 0 (aK am 25) := by
  refine Met.ofW (cc := b_MO_within) (maxL := 3) (ret := (some .boolean)) (by decide) rfl ?_
  intro p e s m args below meth c s₁ B hml hv
  obtain ⟨rfl, hP, hK, hN⟩ := hv
  have hx := B.exec
  have hb := B.bytes
  have hr := B.returns
  have hts := atoms_spec (ws := .code y_MO_within b_MO_within 3 (some .boolean) :: wC) B.pre
  have ht : ∀ w ∈ wC, w.before _ s = true := fun w h => hts w (List.mem_cons_of_mem _ h)
  have hown : s.vm.findClass R_MO = some m.cls := findClass_of_methodNamed B.named
  have hlocks := B.notSynchronized
  have hS : va_S (aK am 25) s.heap s.heap [] := va_S.rf
  have hl := lv_entry ([.int p1, .int p2, .int p3]) (n := 3) (Nat.le_of_ble_eq_true rfl)
  rw [lg_entry_eq]
  generalize (lg_sl ([.int p1, .int p2, .int p3]) ++ List.replicate (3 - (lg_sl ([.int p1, .int p2, .int p3])).length) Slot.unset).toArray = ls at hl ⊢
  have hl : lv_has ls 3 [(0, .int p1), (1, .int p2), (2, .int p3)] := hl
  unfold wp_MO_within at hq
  have hh8 : 8 < 9 := by decide
  refine lv_iload_n hx hb d_MO_within_0 rfl (lv_at hl 0 rfl) ?_
  refine lv_iload_n hx hb d_MO_within_1 rfl (lv_at hl 1 rfl) ?_
  refine lv_icmp_lt (tgt := 14) hx hb d_MO_within_2 (by decide) (fun c1 => ?_) (fun c1 => ?_)
  · have hq := hq.1 c1
    refine lv_iconst (v := 0) hx hb d_MO_within_14 (by decide) ?_
    exact W.zret hx hb hr rfl (fun t ht hW => ⟨⟨0, σ, rfl, hq, by rw [ht]; exact hP, va_K.moved hW.alike hK, hN.warm hW⟩, hS.F ht⟩) hS.2.2 d_MO_within_15
  · have hq := hq.2 c1
    refine lv_iload_n hx hb d_MO_within_5 rfl (lv_at hl 0 rfl) ?_
    refine lv_iload_n hx hb d_MO_within_6 rfl (lv_at hl 2 rfl) ?_
    refine lv_icmp_gt (tgt := 14) hx hb d_MO_within_7 (by decide) (fun c2 => ?_) (fun c2 => ?_)
    · have hq := hq.1 c2
      refine lv_iconst (v := 0) hx hb d_MO_within_14 (by decide) ?_
      exact W.zret hx hb hr rfl (fun t ht hW => ⟨⟨0, σ, rfl, hq, by rw [ht]; exact hP, va_K.moved hW.alike hK, hN.warm hW⟩, hS.F ht⟩) hS.2.2 d_MO_within_15
    · have hq := hq.2 c2
      refine lv_iconst (v := 1) hx hb d_MO_within_10 (by decide) ?_
      refine lv_goto (tgt := 15) hx hb d_MO_within_11 (by decide) ?_
      exact W.zret hx hb hr rfl (fun t ht hW => ⟨⟨1, σ, rfl, hq, by rw [ht]; exact hP, va_K.moved hW.alike hK, hN.warm hW⟩, hS.F ht⟩) hS.2.2 d_MO_within_15
def wp_MO_fail (p1 : Int32) (σ : CS) (Q : Int32 → CS → Prop) : Prop := (∀ s1 : CS, s1 = sI σ 5 p1 → Q 0 s1)
set_option maxHeartbeats 4000000 in
set_option maxRecDepth 100000 in
theorem c_MO_fail {l : Launch} {D : va_G} {cs : CI} {am : Nat → Nat} (hi : aI am 25) {p1 : Int32} {σ : CS} {Q : Int32 → CS → Prop} (hq : wp_MO_fail p1 σ Q) : Met l y_MO_fail (.code y_MO_fail b_MO_fail 2 (some .int) :: wC) ({ frames := 0, cells := 0, slots := 0, locals := 0 }) (va_Pc [.ref (am 0), .int p1] (mP D cs am σ)) (va_Qi Q (mP D cs am) (aK am 25)) 0 0 (aK am 25) := by
  refine Met.ofW (cc := b_MO_fail) (maxL := 2) (ret := (some .int)) (by decide) rfl ?_
  intro p e s m args below meth c s₁ B hml hv
  obtain ⟨rfl, hP, hK, hN⟩ := hv
  have hx := B.exec
  have hb := B.bytes
  have hr := B.returns
  have hts := atoms_spec (ws := .code y_MO_fail b_MO_fail 2 (some .int) :: wC) B.pre
  have ht : ∀ w ∈ wC, w.before _ s = true := fun w h => hts w (List.mem_cons_of_mem _ h)
  have hown : s.vm.findClass R_MO = some m.cls := findClass_of_methodNamed B.named
  have hlocks := B.notSynchronized
  have hS : va_S (aK am 25) s.heap s.heap [] := va_S.rf
  have hl := lv_entry ([.ref (am 0), .int p1]) (n := 2) (Nat.le_of_ble_eq_true rfl)
  rw [lg_entry_eq]
  generalize (lg_sl ([.ref (am 0), .int p1]) ++ List.replicate (2 - (lg_sl ([.ref (am 0), .int p1])).length) Slot.unset).toArray = ls at hl ⊢
  have hl : lv_has ls 2 [(0, .ref (am 0)), (1, .int p1)] := hl
  unfold wp_MO_fail at hq
  have hh8 : 8 < 9 := by decide
  refine lv_aload_n hx hb d_MO_fail_0 rfl (lv_at hl 0 rfl) ?_
  refine lv_iload_n hx hb d_MO_fail_1 rfl (lv_at hl 1 rfl) ?_
  refine cw_put (C := R_MO) (T := F_MO) (N := 39) (ty := .int) (v := .int p1) hx hb hts (in_MO _) t_MO tok_MO n_MO hown hK hP hi hS 0 (by decide) rfl rfl 14 (by decide) (ht _ wC_696) rfl (by decide +kernel) rfl rfl (Nat.le_of_ble_eq_true rfl) up_MO_thrown d_MO_fail_2 (fun H locs hP hS => ?_)
  obtain ⟨s1, e_s1⟩ : ∃ z, z = sI σ 5 p1 := ⟨_, rfl⟩
  rw [← e_s1] at hP
  have hq := hq s1 e_s1
  refine lv_iconst (v := 0) hx hb d_MO_fail_5 (by decide) ?_
  exact W.iret hx hb hr (fun t ht hW => ⟨⟨0, s1, rfl, hq, by rw [ht]; exact hP, va_K.moved hW.alike hK, hN.warm hW⟩, hS.F ht⟩) hS.2.2 d_MO_fail_6
def wp_MO_round (p1 : UInt64) (σ : CS) (Q : UInt64 → CS → Prop) : Prop := (vf_n64 (FP.dadd p1 4602678819172646912) ∧ (((Op.cmpValue (FP.dcmp (FP.l2d (FP.d2l (FP.dadd p1 4602678819172646912))) (FP.dadd p1 4602678819172646912)) .l) ≤ 0 → Q (FP.l2d (FP.d2l (FP.dadd p1 4602678819172646912))) σ) ∧ (¬ (Op.cmpValue (FP.dcmp (FP.l2d (FP.d2l (FP.dadd p1 4602678819172646912))) (FP.dadd p1 4602678819172646912)) .l) ≤ 0 → (vf_n64 (FP.dsub (FP.l2d (FP.d2l (FP.dadd p1 4602678819172646912))) FP.dconst1) ∧ Q (FP.dsub (FP.l2d (FP.d2l (FP.dadd p1 4602678819172646912))) FP.dconst1) σ))))
set_option maxHeartbeats 4000000 in
set_option maxRecDepth 100000 in
theorem c_MO_round {l : Launch} {D : va_G} {cs : CI} {am : Nat → Nat} (hi : aI am 25) {p1 : UInt64} {σ : CS} {Q : UInt64 → CS → Prop} (hq : wp_MO_round p1 σ Q) : Met l y_MO_round (.code y_MO_round b_MO_round 6 (some .double) :: wC) ({ frames := 0, cells := 0, slots := 0, locals := 0 }) (va_Pc [.double p1] (mP D cs am σ)) (va_Qd Q (mP D cs am) (aK am 25)) 0 0 (aK am 25) := by
  refine Met.ofW (cc := b_MO_round) (maxL := 6) (ret := (some .double)) (by decide) rfl ?_
  intro p e s m args below meth c s₁ B hml hv
  obtain ⟨rfl, hP, hK, hN⟩ := hv
  have hx := B.exec
  have hb := B.bytes
  have hr := B.returns
  have hts := atoms_spec (ws := .code y_MO_round b_MO_round 6 (some .double) :: wC) B.pre
  have ht : ∀ w ∈ wC, w.before _ s = true := fun w h => hts w (List.mem_cons_of_mem _ h)
  have hown : s.vm.findClass R_MO = some m.cls := findClass_of_methodNamed B.named
  have hlocks := B.notSynchronized
  have hS : va_S (aK am 25) s.heap s.heap [] := va_S.rf
  have hl := lv_entry ([.double p1]) (n := 6) (Nat.le_of_ble_eq_true rfl)
  rw [lg_entry_eq]
  generalize (lg_sl ([.double p1]) ++ List.replicate (6 - (lg_sl ([.double p1])).length) Slot.unset).toArray = ls at hl ⊢
  have hl : lv_has ls 6 [(0, .double p1)] := hl
  unfold wp_MO_round at hq
  have hh8 : 8 < 9 := by decide
  refine lv_dload_n hx hb d_MO_round_0 rfl (lv_at hl 0 rfl) ?_
  refine lv_ldc2d hx hb hown (ht _ wC_846) d_MO_round_1 ?_
  refine lv_dadd hx hb d_MO_round_4 hq.1 ?_
  have hq := hq.2
  refine lv_dstore_n (lv' := [(2, .double (FP.dadd p1 4602678819172646912)), (0, .double p1)]) hx hb d_MO_round_5 rfl hl (by decide) rfl (fun ls hl => ?_)
  refine lv_dload_n hx hb d_MO_round_6 rfl (lv_at hl 0 rfl) ?_
  refine lv_d2l hx hb d_MO_round_7 ?_
  refine lv_l2d hx hb d_MO_round_8 ?_
  refine lv_dstore (lv' := [(4, .double (FP.l2d (FP.d2l (FP.dadd p1 4602678819172646912)))), (2, .double (FP.dadd p1 4602678819172646912)), (0, .double p1)]) hx hb d_MO_round_9 hl (by decide) rfl (fun ls hl => ?_)
  refine lv_dload hx hb d_MO_round_11 (lv_at hl 0 rfl) ?_
  refine lv_dload_n hx hb d_MO_round_13 rfl (lv_at hl 1 rfl) ?_
  refine lv_dcmp hx hb d_MO_round_14 ?_
  refine lv_if_le (tgt := 25) hx hb d_MO_round_15 (by decide) (fun c1 => ?_) (fun c1 => ?_)
  · have hq := hq.1 c1
    refine lv_dload hx hb d_MO_round_25 (lv_at hl 0 rfl) ?_
    exact W.dret hx hb hr (fun t ht hW => ⟨⟨(FP.l2d (FP.d2l (FP.dadd p1 4602678819172646912))), σ, rfl, hq, by rw [ht]; exact hP, va_K.moved hW.alike hK, hN.warm hW⟩, hS.F ht⟩) hS.2.2 d_MO_round_27
  · have hq := hq.2 c1
    refine lv_dload hx hb d_MO_round_18 (lv_at hl 0 rfl) ?_
    refine lv_dconst1 hx hb d_MO_round_20 ?_
    refine lv_dsub hx hb d_MO_round_21 hq.1 ?_
    have hq := hq.2
    refine lv_goto (tgt := 27) hx hb d_MO_round_22 (by decide) ?_
    exact W.dret hx hb hr (fun t ht hW => ⟨⟨(FP.dsub (FP.l2d (FP.d2l (FP.dadd p1 4602678819172646912))) FP.dconst1), σ, rfl, hq, by rw [ht]; exact hP, va_K.moved hW.alike hK, hN.warm hW⟩, hS.F ht⟩) hS.2.2 d_MO_round_27
def wp_MO_isGood (p1 : UInt64) (σ : CS) (Q : Int32 → CS → Prop) : Prop := ((0 < (Op.cmpValue (FP.dcmp p1 4741671816366391296) .g) → Q 0 σ) ∧ (¬ 0 < (Op.cmpValue (FP.dcmp p1 4741671816366391296) .g) → (((Op.cmpValue (FP.dcmp p1 13965043853221167104) .l) < 0 → Q 0 σ) ∧ (¬ (Op.cmpValue (FP.dcmp p1 13965043853221167104) .l) < 0 → Q 1 σ))))
set_option maxHeartbeats 4000000 in
set_option maxRecDepth 100000 in
theorem c_MO_isGood {l : Launch} {D : va_G} {cs : CI} {am : Nat → Nat} (hi : aI am 25) {p1 : UInt64} {σ : CS} {Q : Int32 → CS → Prop} (hq : wp_MO_isGood p1 σ Q) : Met l y_MO_isGood (.code y_MO_isGood b_MO_isGood 2 (some .boolean) :: wC) ({ frames := 0, cells := 0, slots := 0, locals := 0 }) (va_Pc [.double p1] (mP D cs am σ)) (va_Qi Q (mP D cs am) (aK am 25)) 0 0 (aK am 25) := by
  refine Met.ofW (cc := b_MO_isGood) (maxL := 2) (ret := (some .boolean)) (by decide) rfl ?_
  intro p e s m args below meth c s₁ B hml hv
  obtain ⟨rfl, hP, hK, hN⟩ := hv
  have hx := B.exec
  have hb := B.bytes
  have hr := B.returns
  have hts := atoms_spec (ws := .code y_MO_isGood b_MO_isGood 2 (some .boolean) :: wC) B.pre
  have ht : ∀ w ∈ wC, w.before _ s = true := fun w h => hts w (List.mem_cons_of_mem _ h)
  have hown : s.vm.findClass R_MO = some m.cls := findClass_of_methodNamed B.named
  have hlocks := B.notSynchronized
  have hS : va_S (aK am 25) s.heap s.heap [] := va_S.rf
  have hl := lv_entry ([.double p1]) (n := 2) (Nat.le_of_ble_eq_true rfl)
  rw [lg_entry_eq]
  generalize (lg_sl ([.double p1]) ++ List.replicate (2 - (lg_sl ([.double p1])).length) Slot.unset).toArray = ls at hl ⊢
  have hl : lv_has ls 2 [(0, .double p1)] := hl
  unfold wp_MO_isGood at hq
  have hh8 : 8 < 9 := by decide
  refine lv_dload_n hx hb d_MO_isGood_0 rfl (lv_at hl 0 rfl) ?_
  refine lv_ldc2d hx hb hown (ht _ wC_841) d_MO_isGood_1 ?_
  refine lv_dcmp hx hb d_MO_isGood_4 ?_
  refine lv_if_gt (tgt := 20) hx hb d_MO_isGood_5 (by decide) (fun c1 => ?_) (fun c1 => ?_)
  · have hq := hq.1 c1
    refine lv_iconst (v := 0) hx hb d_MO_isGood_20 (by decide) ?_
    exact W.zret hx hb hr rfl (fun t ht hW => ⟨⟨0, σ, rfl, hq, by rw [ht]; exact hP, va_K.moved hW.alike hK, hN.warm hW⟩, hS.F ht⟩) hS.2.2 d_MO_isGood_21
  · have hq := hq.2 c1
    refine lv_dload_n hx hb d_MO_isGood_8 rfl (lv_at hl 0 rfl) ?_
    refine lv_ldc2d hx hb hown (ht _ wC_842) d_MO_isGood_9 ?_
    refine lv_dcmp hx hb d_MO_isGood_12 ?_
    refine lv_if_lt (tgt := 20) hx hb d_MO_isGood_13 (by decide) (fun c2 => ?_) (fun c2 => ?_)
    · have hq := hq.1 c2
      refine lv_iconst (v := 0) hx hb d_MO_isGood_20 (by decide) ?_
      exact W.zret hx hb hr rfl (fun t ht hW => ⟨⟨0, σ, rfl, hq, by rw [ht]; exact hP, va_K.moved hW.alike hK, hN.warm hW⟩, hS.F ht⟩) hS.2.2 d_MO_isGood_21
    · have hq := hq.2 c2
      refine lv_iconst (v := 1) hx hb d_MO_isGood_16 (by decide) ?_
      refine lv_goto (tgt := 21) hx hb d_MO_isGood_17 (by decide) ?_
      exact W.zret hx hb hr rfl (fun t ht hW => ⟨⟨1, σ, rfl, hq, by rw [ht]; exact hP, va_K.moved hW.alike hK, hN.warm hW⟩, hS.F ht⟩) hS.2.2 d_MO_isGood_21
def wp_MO_isNode (p1 : Int32) (σ : CS) (Q : Int32 → CS → Prop) : Prop := (wp_MO_within p1 0 ((gI σ 0) - 1) σ (fun r1 s2 => (vp_z r1 ∧ Q r1 s2)))
set_option maxHeartbeats 4000000 in
set_option maxRecDepth 100000 in
theorem c_MO_isNode {l : Launch} {D : va_G} {cs : CI} {am : Nat → Nat} (hi : aI am 25) {p1 : Int32} {σ : CS} {Q : Int32 → CS → Prop} (hq : wp_MO_isNode p1 σ Q) : Met l y_MO_isNode (.code y_MO_isNode b_MO_isNode 2 (some .boolean) :: wC) ({ frames := 1, cells := 0, slots := 0, locals := 22 }) (va_Pc [.ref (am 0), .int p1] (mP D cs am σ)) (va_Qi Q (mP D cs am) (aK am 25)) 0 0 (aK am 25) := by
  refine Met.ofW (cc := b_MO_isNode) (maxL := 2) (ret := (some .boolean)) (by decide) rfl ?_
  intro p e s m args below meth c s₁ B hml hv
  obtain ⟨rfl, hP, hK, hN⟩ := hv
  have hx := B.exec
  have hb := B.bytes
  have hr := B.returns
  have hts := atoms_spec (ws := .code y_MO_isNode b_MO_isNode 2 (some .boolean) :: wC) B.pre
  have ht : ∀ w ∈ wC, w.before _ s = true := fun w h => hts w (List.mem_cons_of_mem _ h)
  have hown : s.vm.findClass R_MO = some m.cls := findClass_of_methodNamed B.named
  have hlocks := B.notSynchronized
  have hS : va_S (aK am 25) s.heap s.heap [] := va_S.rf
  have hl := lv_entry ([.ref (am 0), .int p1]) (n := 2) (Nat.le_of_ble_eq_true rfl)
  rw [lg_entry_eq]
  generalize (lg_sl ([.ref (am 0), .int p1]) ++ List.replicate (2 - (lg_sl ([.ref (am 0), .int p1])).length) Slot.unset).toArray = ls at hl ⊢
  have hl : lv_has ls 2 [(0, .ref (am 0)), (1, .int p1)] := hl
  unfold wp_MO_isNode at hq
  have hh8 : 8 < 9 := by decide
  refine lv_iload_n hx hb d_MO_isNode_0 rfl (lv_at hl 1 rfl) ?_
  refine lv_iconst (v := 0) hx hb d_MO_isNode_1 (by decide) ?_
  refine lv_aload_n hx hb d_MO_isNode_2 rfl (lv_at hl 0 rfl) ?_
  refine cw_get (C := R_MO) (T := F_MO) (N := 39) (v := .int (gI σ 0)) hx hb hts (in_MO _) hown hK hP 0 (by decide) rfl rfl 9 (by decide) (ht _ wC_691) rfl d_MO_isNode_3 ?_
  refine lv_iconst (v := 1) hx hb d_MO_isNode_6 (by decide) ?_
  refine lv_isub hx hb d_MO_isNode_7 ?_
  refine va_calli (va_runS (As := [.int p1, .int 0, .int ((gI σ 0) - 1)]) (rest := []) ⟨hx, hb, hml, hown, hts⟩ (c_MO_within (D := D) (cs := cs) hi hq) (va_cwS 3 hts (good_S wC_812 wC_813 wC_50 wC_814) rfl rfl rfl (by decide +kernel) ⟨(show 0 + 1 ≤ 1 by omega), (show 8 + (3 + 11) + 0 ≤ 22 by omega)⟩) ⟨mP_blind, fun U hU hW => ⟨rfl, by rw [hU]; exact hP, va_K.moved hW.alike hK, hN.warm hW⟩⟩ rfl rfl hl.1 rfl (lv_room (Nat.le_of_ble_eq_true rfl)) d_MO_isNode_8 ⟨Nat.le_of_ble_eq_true rfl, Nat.le_of_ble_eq_true rfl⟩) hS (fun q _ h => h) (fun q h => h) (fun r1 s2 t H locs ht0 hvm hq hB hz1 hk1 hS => ?_)
  obtain ⟨hP, -, -⟩ := hB
  rw [ht0] at hP
  exact W.zret hx hb hr hq.1 (fun t ht hW => ⟨⟨r1, s2, rfl, hq.2, by rw [ht]; exact hP, va_K.moved hW.alike hK, hN.warm hW⟩, hS.F ht⟩) hS.2.2 d_MO_isNode_11
def wp_MO_fits (p1 : Int32) (p2 : Int32) (p3 : Int32) (p4 : Int32) (σ : CS) (Q : Int32 → CS → Prop) : Prop := ((p1 = 0 → Q 1 σ) ∧ (¬ p1 = 0 → ((p1 = 1 → (wp_MO_within p2 0 7 σ (fun r3 s4 => (vp_z r3 ∧ Q r3 s4)))) ∧ (¬ p1 = 1 → ((p1 = 9 → (wp_MO_isNode p2 σ (fun r6 s7 => ((r6 = 0 → Q 0 s7) ∧ (¬ r6 = 0 → (wp_MO_isNode p3 s7 (fun r9 s10 => ((r9 = 0 → Q 0 s10) ∧ (¬ r9 = 0 → (wp_MO_isNode p4 s10 (fun r12 s13 => ((r12 = 0 → Q 0 s13) ∧ (¬ r12 = 0 → Q 1 s13))))))))))))) ∧ (¬ p1 = 9 → ((p1 = 10 → (wp_MO_within p2 0 1 σ (fun r16 s17 => (vp_z r16 ∧ Q r16 s17)))) ∧ (¬ p1 = 10 → ((p1 = 11 → (wp_MO_within p2 0 1 σ (fun r19 s20 => (vp_z r19 ∧ Q r19 s20)))) ∧ (¬ p1 = 11 → ((p1 = 12 → (wp_MO_within p2 0 3 σ (fun r22 s23 => ((r22 = 0 → Q 0 s23) ∧ (¬ r22 = 0 → ((p3 = (-1) → ((p4 = (-1) → Q 1 s23) ∧ (¬ p4 = (-1) → (wp_MO_isNode p4 s23 (fun r27 s28 => ((r27 = 0 → Q 0 s28) ∧ (¬ r27 = 0 → Q 1 s28))))))) ∧ (¬ p3 = (-1) → (wp_MO_isNode p3 s23 (fun r30 s31 => ((r30 = 0 → Q 0 s31) ∧ (¬ r30 = 0 → ((p4 = (-1) → Q 1 s31) ∧ (¬ p4 = (-1) → (wp_MO_isNode p4 s31 (fun r34 s35 => ((r34 = 0 → Q 0 s35) ∧ (¬ r34 = 0 → Q 1 s35))))))))))))))))) ∧ (¬ p1 = 12 → ((p1 = 16 → (wp_MO_within p2 0 3 σ (fun r38 s39 => (vp_z r38 ∧ Q r38 s39)))) ∧ (¬ p1 = 16 → ((p1 = 17 → (wp_MO_within p2 0 3 σ (fun r41 s42 => ((r41 = 0 → Q 0 s42) ∧ (¬ r41 = 0 → (wp_MO_isNode p3 s42 (fun r44 s45 => ((r44 = 0 → Q 0 s45) ∧ (¬ r44 = 0 → Q 1 s45))))))))) ∧ (¬ p1 = 17 → (wp_MO_within p1 2 15 σ (fun r47 s48 => ((r47 = 0 → Q 0 s48) ∧ (¬ r47 = 0 → (wp_MO_isNode p2 s48 (fun r50 s51 => ((r50 = 0 → Q 0 s51) ∧ (¬ r50 = 0 → (wp_MO_isNode p3 s51 (fun r53 s54 => ((r53 = 0 → Q 0 s54) ∧ (¬ r53 = 0 → Q 1 s54))))))))))))))))))))))))))))
set_option maxHeartbeats 4000000 in
set_option maxRecDepth 100000 in
theorem c_MO_fits {l : Launch} {D : va_G} {cs : CI} {am : Nat → Nat} (hi : aI am 25) {p1 : Int32} {p2 : Int32} {p3 : Int32} {p4 : Int32} {σ : CS} {Q : Int32 → CS → Prop} (hq : wp_MO_fits p1 p2 p3 p4 σ Q) : Met l y_MO_fits (.code y_MO_fits b_MO_fits 5 (some .boolean) :: wC) ({ frames := 2, cells := 0, slots := 0, locals := 43 }) (va_Pc [.ref (am 0), .int p1, .int p2, .int p3, .int p4] (mP D cs am σ)) (va_Qi Q (mP D cs am) (aK am 25)) 0 0 (aK am 25) := by
  refine Met.ofW (cc := b_MO_fits) (maxL := 5) (ret := (some .boolean)) (by decide) rfl ?_
  intro p e s m args below meth c s₁ B hml hv
  obtain ⟨rfl, hP, hK, hN⟩ := hv
  have hx := B.exec
  have hb := B.bytes
  have hr := B.returns
  have hts := atoms_spec (ws := .code y_MO_fits b_MO_fits 5 (some .boolean) :: wC) B.pre
  have ht : ∀ w ∈ wC, w.before _ s = true := fun w h => hts w (List.mem_cons_of_mem _ h)
  have hown : s.vm.findClass R_MO = some m.cls := findClass_of_methodNamed B.named
  have hlocks := B.notSynchronized
  have hS : va_S (aK am 25) s.heap s.heap [] := va_S.rf
  have hl := lv_entry ([.ref (am 0), .int p1, .int p2, .int p3, .int p4]) (n := 5) (Nat.le_of_ble_eq_true rfl)
  rw [lg_entry_eq]
  generalize (lg_sl ([.ref (am 0), .int p1, .int p2, .int p3, .int p4]) ++ List.replicate (5 - (lg_sl ([.ref (am 0), .int p1, .int p2, .int p3, .int p4])).length) Slot.unset).toArray = ls at hl ⊢
  have hl : lv_has ls 5 [(0, .ref (am 0)), (1, .int p1), (2, .int p2), (3, .int p3), (4, .int p4)] := hl
  unfold wp_MO_fits at hq
  have hh8 : 8 < 9 := by decide
  refine lv_iload_n hx hb d_MO_fits_0 rfl (lv_at hl 1 rfl) ?_
  by_cases c1 : p1 = 0
  · have hq := hq.1 c1
    refine lv_tableIn (tgt := 88) hx hb d_MO_fits_1 (by rw [c1]; decide) (by rw [c1]; decide) (by rw [c1]; rfl) (by decide) ?_
    refine lv_iconst (v := 1) hx hb d_MO_fits_88 (by decide) ?_
    exact W.zret hx hb hr rfl (fun t ht hW => ⟨⟨1, σ, rfl, hq, by rw [ht]; exact hP, va_K.moved hW.alike hK, hN.warm hW⟩, hS.F ht⟩) hS.2.2 d_MO_fits_89
  have hq := hq.2 c1
  by_cases c2 : p1 = 1
  · have hq := hq.1 c2
    refine lv_tableIn (tgt := 90) hx hb d_MO_fits_1 (by rw [c2]; decide) (by rw [c2]; decide) (by rw [c2]; rfl) (by decide) ?_
    refine lv_iload_n hx hb d_MO_fits_90 rfl (lv_at hl 2 rfl) ?_
    refine lv_iconst (v := 0) hx hb d_MO_fits_91 (by decide) ?_
    refine lv_bipush (v := 7) hx hb d_MO_fits_92 (by decide) ?_
    refine va_calli (va_runS (As := [.int p2, .int 0, .int 7]) (rest := []) ⟨hx, hb, hml, hown, hts⟩ (c_MO_within (D := D) (cs := cs) hi hq) (va_cwS 3 hts (good_S wC_812 wC_813 wC_50 wC_814) rfl rfl rfl (by decide +kernel) ⟨(show 0 + 1 ≤ 2 by omega), (show 8 + (3 + 11) + 0 ≤ 43 by omega)⟩) ⟨mP_blind, fun U hU hW => ⟨rfl, by rw [hU]; exact hP, va_K.moved hW.alike hK, hN.warm hW⟩⟩ rfl rfl hl.1 rfl (lv_room (Nat.le_of_ble_eq_true rfl)) d_MO_fits_94 ⟨Nat.le_of_ble_eq_true rfl, Nat.le_of_ble_eq_true rfl⟩) hS (fun q _ h => h) (fun q h => h) (fun r3 s4 t H locs ht0 hvm hq hB hz1 hk1 hS => ?_)
    obtain ⟨hP, -, -⟩ := hB
    rw [ht0] at hP
    exact W.zret hx hb hr hq.1 (fun t ht hW => ⟨⟨r3, s4, rfl, hq.2, by rw [ht]; exact hP, va_K.moved hW.alike hK, hN.warm hW⟩, hS.F ht⟩) hS.2.2 d_MO_fits_97
  have hq := hq.2 c2
  by_cases c5 : p1 = 9
  · have hq := hq.1 c5
    refine lv_tableIn (tgt := 178) hx hb d_MO_fits_1 (by rw [c5]; decide) (by rw [c5]; decide) (by rw [c5]; rfl) (by decide) ?_
    refine lv_aload_n hx hb d_MO_fits_178 rfl (lv_at hl 0 rfl) ?_
    refine lv_iload_n hx hb d_MO_fits_179 rfl (lv_at hl 2 rfl) ?_
    refine va_calli (va_runV (As := [.int p2]) (rest := []) ⟨hx, hb, hml, hown, hts⟩ (c_MO_isNode (D := D) (cs := cs) hi hq) (cwV 1 hts (good_V wC_815 wC_817 wC_24 wC_50 wC_818) rfl rfl rfl (by decide +kernel) ⟨(show 1 + 1 ≤ 2 by omega), (show 8 + (2 + 11) + 22 ≤ 43 by omega)⟩) ⟨mP_blind, va_recv hK hP (ci := 5) (q0 := 0) rfl (wd_at (by decide) rfl), fun U hU hW => ⟨rfl, by rw [hU]; exact hP, va_K.moved hW.alike hK, hN.warm hW⟩⟩ rfl rfl hl.1 rfl (lv_room (Nat.le_of_ble_eq_true rfl)) d_MO_fits_180 ⟨Nat.le_of_ble_eq_true rfl, Nat.le_of_ble_eq_true rfl⟩) hS (fun q _ h => h) (fun q h => h) (fun r6 s7 t H locs ht0 hvm hq hB hz1 hk1 hS => ?_)
    obtain ⟨hP, -, -⟩ := hB
    rw [ht0] at hP
    refine lv_if_eq (tgt := 207) hx hb d_MO_fits_183 (by decide) (fun c8 => ?_) (fun c8 => ?_)
    · have hq := hq.1 c8
      refine lv_iconst (v := 0) hx hb d_MO_fits_207 (by decide) ?_
      exact W.zret hx hb hr rfl (fun t ht hW => ⟨⟨0, s7, rfl, hq, by rw [ht]; exact hP, va_K.moved hW.alike hK, hN.warm hW⟩, hS.F ht⟩) hS.2.2 d_MO_fits_208
    · have hq := hq.2 c8
      refine lv_aload_n hx hb d_MO_fits_186 rfl (lv_at hl 0 rfl) ?_
      refine lv_iload_n hx hb d_MO_fits_187 rfl (lv_at hl 3 rfl) ?_
      refine va_calli (va_runV (As := [.int p3]) (rest := []) ⟨hx, hb, hml, hown, hts⟩ (c_MO_isNode (D := D) (cs := cs) hi hq) (cwV 1 hts (good_V wC_815 wC_817 wC_24 wC_50 wC_818) rfl rfl rfl (by decide +kernel) ⟨(show 1 + 1 ≤ 2 by omega), (show 8 + (2 + 11) + 22 ≤ 43 by omega)⟩) ⟨mP_blind, va_recv hK hP (ci := 5) (q0 := 0) rfl (wd_at (by decide) rfl), fun U hU hW => ⟨rfl, by rw [hU]; exact hP, va_K.moved hW.alike hK, hN.warm hW⟩⟩ rfl rfl hl.1 rfl (lv_room (Nat.le_of_ble_eq_true rfl)) d_MO_fits_188 ⟨Nat.le_of_ble_eq_true rfl, Nat.le_of_ble_eq_true rfl⟩) hS (fun q _ h => h) (fun q h => h) (fun r9 s10 t H locs ht0 hvm hq hB hz1 hk1 hS => ?_)
      obtain ⟨hP, -, -⟩ := hB
      rw [ht0] at hP
      refine lv_if_eq (tgt := 207) hx hb d_MO_fits_191 (by decide) (fun c11 => ?_) (fun c11 => ?_)
      · have hq := hq.1 c11
        refine lv_iconst (v := 0) hx hb d_MO_fits_207 (by decide) ?_
        exact W.zret hx hb hr rfl (fun t ht hW => ⟨⟨0, s10, rfl, hq, by rw [ht]; exact hP, va_K.moved hW.alike hK, hN.warm hW⟩, hS.F ht⟩) hS.2.2 d_MO_fits_208
      · have hq := hq.2 c11
        refine lv_aload_n hx hb d_MO_fits_194 rfl (lv_at hl 0 rfl) ?_
        refine lv_iload hx hb d_MO_fits_195 (lv_at hl 4 rfl) ?_
        refine va_calli (va_runV (As := [.int p4]) (rest := []) ⟨hx, hb, hml, hown, hts⟩ (c_MO_isNode (D := D) (cs := cs) hi hq) (cwV 1 hts (good_V wC_815 wC_817 wC_24 wC_50 wC_818) rfl rfl rfl (by decide +kernel) ⟨(show 1 + 1 ≤ 2 by omega), (show 8 + (2 + 11) + 22 ≤ 43 by omega)⟩) ⟨mP_blind, va_recv hK hP (ci := 5) (q0 := 0) rfl (wd_at (by decide) rfl), fun U hU hW => ⟨rfl, by rw [hU]; exact hP, va_K.moved hW.alike hK, hN.warm hW⟩⟩ rfl rfl hl.1 rfl (lv_room (Nat.le_of_ble_eq_true rfl)) d_MO_fits_197 ⟨Nat.le_of_ble_eq_true rfl, Nat.le_of_ble_eq_true rfl⟩) hS (fun q _ h => h) (fun q h => h) (fun r12 s13 t H locs ht0 hvm hq hB hz1 hk1 hS => ?_)
        obtain ⟨hP, -, -⟩ := hB
        rw [ht0] at hP
        refine lv_if_eq (tgt := 207) hx hb d_MO_fits_200 (by decide) (fun c14 => ?_) (fun c14 => ?_)
        · have hq := hq.1 c14
          refine lv_iconst (v := 0) hx hb d_MO_fits_207 (by decide) ?_
          exact W.zret hx hb hr rfl (fun t ht hW => ⟨⟨0, s13, rfl, hq, by rw [ht]; exact hP, va_K.moved hW.alike hK, hN.warm hW⟩, hS.F ht⟩) hS.2.2 d_MO_fits_208
        · have hq := hq.2 c14
          refine lv_iconst (v := 1) hx hb d_MO_fits_203 (by decide) ?_
          refine lv_goto (tgt := 208) hx hb d_MO_fits_204 (by decide) ?_
          exact W.zret hx hb hr rfl (fun t ht hW => ⟨⟨1, s13, rfl, hq, by rw [ht]; exact hP, va_K.moved hW.alike hK, hN.warm hW⟩, hS.F ht⟩) hS.2.2 d_MO_fits_208
  have hq := hq.2 c5
  by_cases c15 : p1 = 10
  · have hq := hq.1 c15
    refine lv_tableIn (tgt := 98) hx hb d_MO_fits_1 (by rw [c15]; decide) (by rw [c15]; decide) (by rw [c15]; rfl) (by decide) ?_
    refine lv_iload_n hx hb d_MO_fits_98 rfl (lv_at hl 2 rfl) ?_
    refine lv_iconst (v := 0) hx hb d_MO_fits_99 (by decide) ?_
    refine lv_iconst (v := 1) hx hb d_MO_fits_100 (by decide) ?_
    refine va_calli (va_runS (As := [.int p2, .int 0, .int 1]) (rest := []) ⟨hx, hb, hml, hown, hts⟩ (c_MO_within (D := D) (cs := cs) hi hq) (va_cwS 3 hts (good_S wC_812 wC_813 wC_50 wC_814) rfl rfl rfl (by decide +kernel) ⟨(show 0 + 1 ≤ 2 by omega), (show 8 + (3 + 11) + 0 ≤ 43 by omega)⟩) ⟨mP_blind, fun U hU hW => ⟨rfl, by rw [hU]; exact hP, va_K.moved hW.alike hK, hN.warm hW⟩⟩ rfl rfl hl.1 rfl (lv_room (Nat.le_of_ble_eq_true rfl)) d_MO_fits_101 ⟨Nat.le_of_ble_eq_true rfl, Nat.le_of_ble_eq_true rfl⟩) hS (fun q _ h => h) (fun q h => h) (fun r16 s17 t H locs ht0 hvm hq hB hz1 hk1 hS => ?_)
    obtain ⟨hP, -, -⟩ := hB
    rw [ht0] at hP
    exact W.zret hx hb hr hq.1 (fun t ht hW => ⟨⟨r16, s17, rfl, hq.2, by rw [ht]; exact hP, va_K.moved hW.alike hK, hN.warm hW⟩, hS.F ht⟩) hS.2.2 d_MO_fits_104
  have hq := hq.2 c15
  by_cases c18 : p1 = 11
  · have hq := hq.1 c18
    refine lv_tableIn (tgt := 98) hx hb d_MO_fits_1 (by rw [c18]; decide) (by rw [c18]; decide) (by rw [c18]; rfl) (by decide) ?_
    refine lv_iload_n hx hb d_MO_fits_98 rfl (lv_at hl 2 rfl) ?_
    refine lv_iconst (v := 0) hx hb d_MO_fits_99 (by decide) ?_
    refine lv_iconst (v := 1) hx hb d_MO_fits_100 (by decide) ?_
    refine va_calli (va_runS (As := [.int p2, .int 0, .int 1]) (rest := []) ⟨hx, hb, hml, hown, hts⟩ (c_MO_within (D := D) (cs := cs) hi hq) (va_cwS 3 hts (good_S wC_812 wC_813 wC_50 wC_814) rfl rfl rfl (by decide +kernel) ⟨(show 0 + 1 ≤ 2 by omega), (show 8 + (3 + 11) + 0 ≤ 43 by omega)⟩) ⟨mP_blind, fun U hU hW => ⟨rfl, by rw [hU]; exact hP, va_K.moved hW.alike hK, hN.warm hW⟩⟩ rfl rfl hl.1 rfl (lv_room (Nat.le_of_ble_eq_true rfl)) d_MO_fits_101 ⟨Nat.le_of_ble_eq_true rfl, Nat.le_of_ble_eq_true rfl⟩) hS (fun q _ h => h) (fun q h => h) (fun r19 s20 t H locs ht0 hvm hq hB hz1 hk1 hS => ?_)
    obtain ⟨hP, -, -⟩ := hB
    rw [ht0] at hP
    exact W.zret hx hb hr hq.1 (fun t ht hW => ⟨⟨r19, s20, rfl, hq.2, by rw [ht]; exact hP, va_K.moved hW.alike hK, hN.warm hW⟩, hS.F ht⟩) hS.2.2 d_MO_fits_104
  have hq := hq.2 c18
  by_cases c21 : p1 = 12
  · have hq := hq.1 c21
    refine lv_tableIn (tgt := 135) hx hb d_MO_fits_1 (by rw [c21]; decide) (by rw [c21]; decide) (by rw [c21]; rfl) (by decide) ?_
    refine lv_iload_n hx hb d_MO_fits_135 rfl (lv_at hl 2 rfl) ?_
    refine lv_iconst (v := 0) hx hb d_MO_fits_136 (by decide) ?_
    refine lv_iconst (v := 3) hx hb d_MO_fits_137 (by decide) ?_
    refine va_calli (va_runS (As := [.int p2, .int 0, .int 3]) (rest := []) ⟨hx, hb, hml, hown, hts⟩ (c_MO_within (D := D) (cs := cs) hi hq) (va_cwS 3 hts (good_S wC_812 wC_813 wC_50 wC_814) rfl rfl rfl (by decide +kernel) ⟨(show 0 + 1 ≤ 2 by omega), (show 8 + (3 + 11) + 0 ≤ 43 by omega)⟩) ⟨mP_blind, fun U hU hW => ⟨rfl, by rw [hU]; exact hP, va_K.moved hW.alike hK, hN.warm hW⟩⟩ rfl rfl hl.1 rfl (lv_room (Nat.le_of_ble_eq_true rfl)) d_MO_fits_138 ⟨Nat.le_of_ble_eq_true rfl, Nat.le_of_ble_eq_true rfl⟩) hS (fun q _ h => h) (fun q h => h) (fun r22 s23 t H locs ht0 hvm hq hB hz1 hk1 hS => ?_)
    obtain ⟨hP, -, -⟩ := hB
    rw [ht0] at hP
    refine lv_if_eq (tgt := 176) hx hb d_MO_fits_141 (by decide) (fun c24 => ?_) (fun c24 => ?_)
    · have hq := hq.1 c24
      refine lv_iconst (v := 0) hx hb d_MO_fits_176 (by decide) ?_
      exact W.zret hx hb hr rfl (fun t ht hW => ⟨⟨0, s23, rfl, hq, by rw [ht]; exact hP, va_K.moved hW.alike hK, hN.warm hW⟩, hS.F ht⟩) hS.2.2 d_MO_fits_177
    · have hq := hq.2 c24
      refine lv_iload_n hx hb d_MO_fits_144 rfl (lv_at hl 3 rfl) ?_
      refine lv_iconst (v := (-1)) hx hb d_MO_fits_145 (by decide) ?_
      refine lv_icmp_eq (tgt := 157) hx hb d_MO_fits_146 (by decide) (fun c25 => ?_) (fun c25 => ?_)
      · have hq := hq.1 c25
        refine lv_iload hx hb d_MO_fits_157 (lv_at hl 4 rfl) ?_
        refine lv_iconst (v := (-1)) hx hb d_MO_fits_159 (by decide) ?_
        refine lv_icmp_eq (tgt := 172) hx hb d_MO_fits_160 (by decide) (fun c26 => ?_) (fun c26 => ?_)
        · have hq := hq.1 c26
          refine lv_iconst (v := 1) hx hb d_MO_fits_172 (by decide) ?_
          refine lv_goto (tgt := 177) hx hb d_MO_fits_173 (by decide) ?_
          exact W.zret hx hb hr rfl (fun t ht hW => ⟨⟨1, s23, rfl, hq, by rw [ht]; exact hP, va_K.moved hW.alike hK, hN.warm hW⟩, hS.F ht⟩) hS.2.2 d_MO_fits_177
        · have hq := hq.2 c26
          refine lv_aload_n hx hb d_MO_fits_163 rfl (lv_at hl 0 rfl) ?_
          refine lv_iload hx hb d_MO_fits_164 (lv_at hl 4 rfl) ?_
          refine va_calli (va_runV (As := [.int p4]) (rest := []) ⟨hx, hb, hml, hown, hts⟩ (c_MO_isNode (D := D) (cs := cs) hi hq) (cwV 1 hts (good_V wC_815 wC_817 wC_24 wC_50 wC_818) rfl rfl rfl (by decide +kernel) ⟨(show 1 + 1 ≤ 2 by omega), (show 8 + (2 + 11) + 22 ≤ 43 by omega)⟩) ⟨mP_blind, va_recv hK hP (ci := 5) (q0 := 0) rfl (wd_at (by decide) rfl), fun U hU hW => ⟨rfl, by rw [hU]; exact hP, va_K.moved hW.alike hK, hN.warm hW⟩⟩ rfl rfl hl.1 rfl (lv_room (Nat.le_of_ble_eq_true rfl)) d_MO_fits_166 ⟨Nat.le_of_ble_eq_true rfl, Nat.le_of_ble_eq_true rfl⟩) hS (fun q _ h => h) (fun q h => h) (fun r27 s28 t H locs ht0 hvm hq hB hz1 hk1 hS => ?_)
          obtain ⟨hP, -, -⟩ := hB
          rw [ht0] at hP
          refine lv_if_eq (tgt := 176) hx hb d_MO_fits_169 (by decide) (fun c29 => ?_) (fun c29 => ?_)
          · have hq := hq.1 c29
            refine lv_iconst (v := 0) hx hb d_MO_fits_176 (by decide) ?_
            exact W.zret hx hb hr rfl (fun t ht hW => ⟨⟨0, s28, rfl, hq, by rw [ht]; exact hP, va_K.moved hW.alike hK, hN.warm hW⟩, hS.F ht⟩) hS.2.2 d_MO_fits_177
          · have hq := hq.2 c29
            refine lv_iconst (v := 1) hx hb d_MO_fits_172 (by decide) ?_
            refine lv_goto (tgt := 177) hx hb d_MO_fits_173 (by decide) ?_
            exact W.zret hx hb hr rfl (fun t ht hW => ⟨⟨1, s28, rfl, hq, by rw [ht]; exact hP, va_K.moved hW.alike hK, hN.warm hW⟩, hS.F ht⟩) hS.2.2 d_MO_fits_177
      · have hq := hq.2 c25
        refine lv_aload_n hx hb d_MO_fits_149 rfl (lv_at hl 0 rfl) ?_
        refine lv_iload_n hx hb d_MO_fits_150 rfl (lv_at hl 3 rfl) ?_
        refine va_calli (va_runV (As := [.int p3]) (rest := []) ⟨hx, hb, hml, hown, hts⟩ (c_MO_isNode (D := D) (cs := cs) hi hq) (cwV 1 hts (good_V wC_815 wC_817 wC_24 wC_50 wC_818) rfl rfl rfl (by decide +kernel) ⟨(show 1 + 1 ≤ 2 by omega), (show 8 + (2 + 11) + 22 ≤ 43 by omega)⟩) ⟨mP_blind, va_recv hK hP (ci := 5) (q0 := 0) rfl (wd_at (by decide) rfl), fun U hU hW => ⟨rfl, by rw [hU]; exact hP, va_K.moved hW.alike hK, hN.warm hW⟩⟩ rfl rfl hl.1 rfl (lv_room (Nat.le_of_ble_eq_true rfl)) d_MO_fits_151 ⟨Nat.le_of_ble_eq_true rfl, Nat.le_of_ble_eq_true rfl⟩) hS (fun q _ h => h) (fun q h => h) (fun r30 s31 t H locs ht0 hvm hq hB hz1 hk1 hS => ?_)
        obtain ⟨hP, -, -⟩ := hB
        rw [ht0] at hP
        refine lv_if_eq (tgt := 176) hx hb d_MO_fits_154 (by decide) (fun c32 => ?_) (fun c32 => ?_)
        · have hq := hq.1 c32
          refine lv_iconst (v := 0) hx hb d_MO_fits_176 (by decide) ?_
          exact W.zret hx hb hr rfl (fun t ht hW => ⟨⟨0, s31, rfl, hq, by rw [ht]; exact hP, va_K.moved hW.alike hK, hN.warm hW⟩, hS.F ht⟩) hS.2.2 d_MO_fits_177
        · have hq := hq.2 c32
          refine lv_iload hx hb d_MO_fits_157 (lv_at hl 4 rfl) ?_
          refine lv_iconst (v := (-1)) hx hb d_MO_fits_159 (by decide) ?_
          refine lv_icmp_eq (tgt := 172) hx hb d_MO_fits_160 (by decide) (fun c33 => ?_) (fun c33 => ?_)
          · have hq := hq.1 c33
            refine lv_iconst (v := 1) hx hb d_MO_fits_172 (by decide) ?_
            refine lv_goto (tgt := 177) hx hb d_MO_fits_173 (by decide) ?_
            exact W.zret hx hb hr rfl (fun t ht hW => ⟨⟨1, s31, rfl, hq, by rw [ht]; exact hP, va_K.moved hW.alike hK, hN.warm hW⟩, hS.F ht⟩) hS.2.2 d_MO_fits_177
          · have hq := hq.2 c33
            refine lv_aload_n hx hb d_MO_fits_163 rfl (lv_at hl 0 rfl) ?_
            refine lv_iload hx hb d_MO_fits_164 (lv_at hl 4 rfl) ?_
            refine va_calli (va_runV (As := [.int p4]) (rest := []) ⟨hx, hb, hml, hown, hts⟩ (c_MO_isNode (D := D) (cs := cs) hi hq) (cwV 1 hts (good_V wC_815 wC_817 wC_24 wC_50 wC_818) rfl rfl rfl (by decide +kernel) ⟨(show 1 + 1 ≤ 2 by omega), (show 8 + (2 + 11) + 22 ≤ 43 by omega)⟩) ⟨mP_blind, va_recv hK hP (ci := 5) (q0 := 0) rfl (wd_at (by decide) rfl), fun U hU hW => ⟨rfl, by rw [hU]; exact hP, va_K.moved hW.alike hK, hN.warm hW⟩⟩ rfl rfl hl.1 rfl (lv_room (Nat.le_of_ble_eq_true rfl)) d_MO_fits_166 ⟨Nat.le_of_ble_eq_true rfl, Nat.le_of_ble_eq_true rfl⟩) hS (fun q _ h => h) (fun q h => h) (fun r34 s35 t H locs ht0 hvm hq hB hz1 hk1 hS => ?_)
            obtain ⟨hP, -, -⟩ := hB
            rw [ht0] at hP
            refine lv_if_eq (tgt := 176) hx hb d_MO_fits_169 (by decide) (fun c36 => ?_) (fun c36 => ?_)
            · have hq := hq.1 c36
              refine lv_iconst (v := 0) hx hb d_MO_fits_176 (by decide) ?_
              exact W.zret hx hb hr rfl (fun t ht hW => ⟨⟨0, s35, rfl, hq, by rw [ht]; exact hP, va_K.moved hW.alike hK, hN.warm hW⟩, hS.F ht⟩) hS.2.2 d_MO_fits_177
            · have hq := hq.2 c36
              refine lv_iconst (v := 1) hx hb d_MO_fits_172 (by decide) ?_
              refine lv_goto (tgt := 177) hx hb d_MO_fits_173 (by decide) ?_
              exact W.zret hx hb hr rfl (fun t ht hW => ⟨⟨1, s35, rfl, hq, by rw [ht]; exact hP, va_K.moved hW.alike hK, hN.warm hW⟩, hS.F ht⟩) hS.2.2 d_MO_fits_177
  have hq := hq.2 c21
  by_cases c37 : p1 = 16
  · have hq := hq.1 c37
    refine lv_tableIn (tgt := 105) hx hb d_MO_fits_1 (by rw [c37]; decide) (by rw [c37]; decide) (by rw [c37]; rfl) (by decide) ?_
    refine lv_iload_n hx hb d_MO_fits_105 rfl (lv_at hl 2 rfl) ?_
    refine lv_iconst (v := 0) hx hb d_MO_fits_106 (by decide) ?_
    refine lv_iconst (v := 3) hx hb d_MO_fits_107 (by decide) ?_
    refine va_calli (va_runS (As := [.int p2, .int 0, .int 3]) (rest := []) ⟨hx, hb, hml, hown, hts⟩ (c_MO_within (D := D) (cs := cs) hi hq) (va_cwS 3 hts (good_S wC_812 wC_813 wC_50 wC_814) rfl rfl rfl (by decide +kernel) ⟨(show 0 + 1 ≤ 2 by omega), (show 8 + (3 + 11) + 0 ≤ 43 by omega)⟩) ⟨mP_blind, fun U hU hW => ⟨rfl, by rw [hU]; exact hP, va_K.moved hW.alike hK, hN.warm hW⟩⟩ rfl rfl hl.1 rfl (lv_room (Nat.le_of_ble_eq_true rfl)) d_MO_fits_108 ⟨Nat.le_of_ble_eq_true rfl, Nat.le_of_ble_eq_true rfl⟩) hS (fun q _ h => h) (fun q h => h) (fun r38 s39 t H locs ht0 hvm hq hB hz1 hk1 hS => ?_)
    obtain ⟨hP, -, -⟩ := hB
    rw [ht0] at hP
    exact W.zret hx hb hr hq.1 (fun t ht hW => ⟨⟨r38, s39, rfl, hq.2, by rw [ht]; exact hP, va_K.moved hW.alike hK, hN.warm hW⟩, hS.F ht⟩) hS.2.2 d_MO_fits_111
  have hq := hq.2 c37
  by_cases c40 : p1 = 17
  · have hq := hq.1 c40
    refine lv_tableIn (tgt := 112) hx hb d_MO_fits_1 (by rw [c40]; decide) (by rw [c40]; decide) (by rw [c40]; rfl) (by decide) ?_
    refine lv_iload_n hx hb d_MO_fits_112 rfl (lv_at hl 2 rfl) ?_
    refine lv_iconst (v := 0) hx hb d_MO_fits_113 (by decide) ?_
    refine lv_iconst (v := 3) hx hb d_MO_fits_114 (by decide) ?_
    refine va_calli (va_runS (As := [.int p2, .int 0, .int 3]) (rest := []) ⟨hx, hb, hml, hown, hts⟩ (c_MO_within (D := D) (cs := cs) hi hq) (va_cwS 3 hts (good_S wC_812 wC_813 wC_50 wC_814) rfl rfl rfl (by decide +kernel) ⟨(show 0 + 1 ≤ 2 by omega), (show 8 + (3 + 11) + 0 ≤ 43 by omega)⟩) ⟨mP_blind, fun U hU hW => ⟨rfl, by rw [hU]; exact hP, va_K.moved hW.alike hK, hN.warm hW⟩⟩ rfl rfl hl.1 rfl (lv_room (Nat.le_of_ble_eq_true rfl)) d_MO_fits_115 ⟨Nat.le_of_ble_eq_true rfl, Nat.le_of_ble_eq_true rfl⟩) hS (fun q _ h => h) (fun q h => h) (fun r41 s42 t H locs ht0 hvm hq hB hz1 hk1 hS => ?_)
    obtain ⟨hP, -, -⟩ := hB
    rw [ht0] at hP
    refine lv_if_eq (tgt := 133) hx hb d_MO_fits_118 (by decide) (fun c43 => ?_) (fun c43 => ?_)
    · have hq := hq.1 c43
      refine lv_iconst (v := 0) hx hb d_MO_fits_133 (by decide) ?_
      exact W.zret hx hb hr rfl (fun t ht hW => ⟨⟨0, s42, rfl, hq, by rw [ht]; exact hP, va_K.moved hW.alike hK, hN.warm hW⟩, hS.F ht⟩) hS.2.2 d_MO_fits_134
    · have hq := hq.2 c43
      refine lv_aload_n hx hb d_MO_fits_121 rfl (lv_at hl 0 rfl) ?_
      refine lv_iload_n hx hb d_MO_fits_122 rfl (lv_at hl 3 rfl) ?_
      refine va_calli (va_runV (As := [.int p3]) (rest := []) ⟨hx, hb, hml, hown, hts⟩ (c_MO_isNode (D := D) (cs := cs) hi hq) (cwV 1 hts (good_V wC_815 wC_817 wC_24 wC_50 wC_818) rfl rfl rfl (by decide +kernel) ⟨(show 1 + 1 ≤ 2 by omega), (show 8 + (2 + 11) + 22 ≤ 43 by omega)⟩) ⟨mP_blind, va_recv hK hP (ci := 5) (q0 := 0) rfl (wd_at (by decide) rfl), fun U hU hW => ⟨rfl, by rw [hU]; exact hP, va_K.moved hW.alike hK, hN.warm hW⟩⟩ rfl rfl hl.1 rfl (lv_room (Nat.le_of_ble_eq_true rfl)) d_MO_fits_123 ⟨Nat.le_of_ble_eq_true rfl, Nat.le_of_ble_eq_true rfl⟩) hS (fun q _ h => h) (fun q h => h) (fun r44 s45 t H locs ht0 hvm hq hB hz1 hk1 hS => ?_)
      obtain ⟨hP, -, -⟩ := hB
      rw [ht0] at hP
      refine lv_if_eq (tgt := 133) hx hb d_MO_fits_126 (by decide) (fun c46 => ?_) (fun c46 => ?_)
      · have hq := hq.1 c46
        refine lv_iconst (v := 0) hx hb d_MO_fits_133 (by decide) ?_
        exact W.zret hx hb hr rfl (fun t ht hW => ⟨⟨0, s45, rfl, hq, by rw [ht]; exact hP, va_K.moved hW.alike hK, hN.warm hW⟩, hS.F ht⟩) hS.2.2 d_MO_fits_134
      · have hq := hq.2 c46
        refine lv_iconst (v := 1) hx hb d_MO_fits_129 (by decide) ?_
        refine lv_goto (tgt := 134) hx hb d_MO_fits_130 (by decide) ?_
        exact W.zret hx hb hr rfl (fun t ht hW => ⟨⟨1, s45, rfl, hq, by rw [ht]; exact hP, va_K.moved hW.alike hK, hN.warm hW⟩, hS.F ht⟩) hS.2.2 d_MO_fits_134
  have hq := hq.2 c40
  refine cw_tabD (tgt := 209) hx hb d_MO_fits_1 (by decide) ?_ ?_
  · have e_c1 := lv_neT c1 (a := 0) rfl; have e_c2 := lv_neT c2 (a := 1) rfl; have e_c5 := lv_neT c5 (a := 9) rfl; have e_c15 := lv_neT c15 (a := 10) rfl; have e_c18 := lv_neT c18 (a := 11) rfl; have e_c21 := lv_neT c21 (a := 12) rfl; have e_c37 := lv_neT c37 (a := 16) rfl; have e_c40 := lv_neT c40 (a := 17) rfl
    by_cases g1 : p1.toInt < 0
    · exact Or.inl g1
    by_cases g2 : 17 < p1.toInt
    · exact Or.inr (Or.inl g2)
    refine Or.inr (Or.inr ?_)
    have g3 : p1.toInt = 2 ∨ p1.toInt = 3 ∨ p1.toInt = 4 ∨ p1.toInt = 5 ∨ p1.toInt = 6 ∨ p1.toInt = 7 ∨ p1.toInt = 8 ∨ p1.toInt = 13 ∨ p1.toInt = 14 ∨ p1.toInt = 15 := by omega
    rcases g3 with g3 | g3 | g3 | g3 | g3 | g3 | g3 | g3 | g3 | g3 <;> rw [g3] <;> rfl
  refine lv_iload_n hx hb d_MO_fits_209 rfl (lv_at hl 1 rfl) ?_
  refine lv_iconst (v := 2) hx hb d_MO_fits_210 (by decide) ?_
  refine lv_bipush (v := 15) hx hb d_MO_fits_211 (by decide) ?_
  refine va_calli (va_runS (As := [.int p1, .int 2, .int 15]) (rest := []) ⟨hx, hb, hml, hown, hts⟩ (c_MO_within (D := D) (cs := cs) hi hq) (va_cwS 3 hts (good_S wC_812 wC_813 wC_50 wC_814) rfl rfl rfl (by decide +kernel) ⟨(show 0 + 1 ≤ 2 by omega), (show 8 + (3 + 11) + 0 ≤ 43 by omega)⟩) ⟨mP_blind, fun U hU hW => ⟨rfl, by rw [hU]; exact hP, va_K.moved hW.alike hK, hN.warm hW⟩⟩ rfl rfl hl.1 rfl (lv_room (Nat.le_of_ble_eq_true rfl)) d_MO_fits_213 ⟨Nat.le_of_ble_eq_true rfl, Nat.le_of_ble_eq_true rfl⟩) hS (fun q _ h => h) (fun q h => h) (fun r47 s48 t H locs ht0 hvm hq hB hz1 hk1 hS => ?_)
  obtain ⟨hP, -, -⟩ := hB
  rw [ht0] at hP
  refine lv_if_eq (tgt := 239) hx hb d_MO_fits_216 (by decide) (fun c49 => ?_) (fun c49 => ?_)
  · have hq := hq.1 c49
    refine lv_iconst (v := 0) hx hb d_MO_fits_239 (by decide) ?_
    exact W.zret hx hb hr rfl (fun t ht hW => ⟨⟨0, s48, rfl, hq, by rw [ht]; exact hP, va_K.moved hW.alike hK, hN.warm hW⟩, hS.F ht⟩) hS.2.2 d_MO_fits_240
  · have hq := hq.2 c49
    refine lv_aload_n hx hb d_MO_fits_219 rfl (lv_at hl 0 rfl) ?_
    refine lv_iload_n hx hb d_MO_fits_220 rfl (lv_at hl 2 rfl) ?_
    refine va_calli (va_runV (As := [.int p2]) (rest := []) ⟨hx, hb, hml, hown, hts⟩ (c_MO_isNode (D := D) (cs := cs) hi hq) (cwV 1 hts (good_V wC_815 wC_817 wC_24 wC_50 wC_818) rfl rfl rfl (by decide +kernel) ⟨(show 1 + 1 ≤ 2 by omega), (show 8 + (2 + 11) + 22 ≤ 43 by omega)⟩) ⟨mP_blind, va_recv hK hP (ci := 5) (q0 := 0) rfl (wd_at (by decide) rfl), fun U hU hW => ⟨rfl, by rw [hU]; exact hP, va_K.moved hW.alike hK, hN.warm hW⟩⟩ rfl rfl hl.1 rfl (lv_room (Nat.le_of_ble_eq_true rfl)) d_MO_fits_221 ⟨Nat.le_of_ble_eq_true rfl, Nat.le_of_ble_eq_true rfl⟩) hS (fun q _ h => h) (fun q h => h) (fun r50 s51 t H locs ht0 hvm hq hB hz1 hk1 hS => ?_)
    obtain ⟨hP, -, -⟩ := hB
    rw [ht0] at hP
    refine lv_if_eq (tgt := 239) hx hb d_MO_fits_224 (by decide) (fun c52 => ?_) (fun c52 => ?_)
    · have hq := hq.1 c52
      refine lv_iconst (v := 0) hx hb d_MO_fits_239 (by decide) ?_
      exact W.zret hx hb hr rfl (fun t ht hW => ⟨⟨0, s51, rfl, hq, by rw [ht]; exact hP, va_K.moved hW.alike hK, hN.warm hW⟩, hS.F ht⟩) hS.2.2 d_MO_fits_240
    · have hq := hq.2 c52
      refine lv_aload_n hx hb d_MO_fits_227 rfl (lv_at hl 0 rfl) ?_
      refine lv_iload_n hx hb d_MO_fits_228 rfl (lv_at hl 3 rfl) ?_
      refine va_calli (va_runV (As := [.int p3]) (rest := []) ⟨hx, hb, hml, hown, hts⟩ (c_MO_isNode (D := D) (cs := cs) hi hq) (cwV 1 hts (good_V wC_815 wC_817 wC_24 wC_50 wC_818) rfl rfl rfl (by decide +kernel) ⟨(show 1 + 1 ≤ 2 by omega), (show 8 + (2 + 11) + 22 ≤ 43 by omega)⟩) ⟨mP_blind, va_recv hK hP (ci := 5) (q0 := 0) rfl (wd_at (by decide) rfl), fun U hU hW => ⟨rfl, by rw [hU]; exact hP, va_K.moved hW.alike hK, hN.warm hW⟩⟩ rfl rfl hl.1 rfl (lv_room (Nat.le_of_ble_eq_true rfl)) d_MO_fits_229 ⟨Nat.le_of_ble_eq_true rfl, Nat.le_of_ble_eq_true rfl⟩) hS (fun q _ h => h) (fun q h => h) (fun r53 s54 t H locs ht0 hvm hq hB hz1 hk1 hS => ?_)
      obtain ⟨hP, -, -⟩ := hB
      rw [ht0] at hP
      refine lv_if_eq (tgt := 239) hx hb d_MO_fits_232 (by decide) (fun c55 => ?_) (fun c55 => ?_)
      · have hq := hq.1 c55
        refine lv_iconst (v := 0) hx hb d_MO_fits_239 (by decide) ?_
        exact W.zret hx hb hr rfl (fun t ht hW => ⟨⟨0, s54, rfl, hq, by rw [ht]; exact hP, va_K.moved hW.alike hK, hN.warm hW⟩, hS.F ht⟩) hS.2.2 d_MO_fits_240
      · have hq := hq.2 c55
        refine lv_iconst (v := 1) hx hb d_MO_fits_235 (by decide) ?_
        refine lv_goto (tgt := 240) hx hb d_MO_fits_236 (by decide) ?_
        exact W.zret hx hb hr rfl (fun t ht hW => ⟨⟨1, s54, rfl, hq, by rw [ht]; exact hP, va_K.moved hW.alike hK, hN.warm hW⟩, hS.F ht⟩) hS.2.2 d_MO_fits_240
def wp_MO_isRange (p1 : Int32) (p2 : Int32) (σ : CS) (Q : Int32 → CS → Prop) : Prop := (wp_MO_within p1 (-9) 9 σ (fun r1 s2 => ((r1 = 0 → Q 0 s2) ∧ (¬ r1 = 0 → (wp_MO_within p2 (-9) 9 s2 (fun r4 s5 => ((r4 = 0 → Q 0 s5) ∧ (¬ r4 = 0 → ((p2 < p1 → Q 0 s5) ∧ (¬ p2 < p1 → ((5 ≤ (p2 - p1) → Q 0 s5) ∧ (¬ 5 ≤ (p2 - p1) → Q 1 s5))))))))))))
set_option maxHeartbeats 4000000 in
set_option maxRecDepth 100000 in
theorem c_MO_isRange {l : Launch} {D : va_G} {cs : CI} {am : Nat → Nat} (hi : aI am 25) {p1 : Int32} {p2 : Int32} {σ : CS} {Q : Int32 → CS → Prop} (hq : wp_MO_isRange p1 p2 σ Q) : Met l y_MO_isRange (.code y_MO_isRange b_MO_isRange 2 (some .boolean) :: wC) ({ frames := 1, cells := 0, slots := 0, locals := 22 }) (va_Pc [.int p1, .int p2] (mP D cs am σ)) (va_Qi Q (mP D cs am) (aK am 25)) 0 0 (aK am 25) := by
  refine Met.ofW (cc := b_MO_isRange) (maxL := 2) (ret := (some .boolean)) (by decide) rfl ?_
  intro p e s m args below meth c s₁ B hml hv
  obtain ⟨rfl, hP, hK, hN⟩ := hv
  have hx := B.exec
  have hb := B.bytes
  have hr := B.returns
  have hts := atoms_spec (ws := .code y_MO_isRange b_MO_isRange 2 (some .boolean) :: wC) B.pre
  have ht : ∀ w ∈ wC, w.before _ s = true := fun w h => hts w (List.mem_cons_of_mem _ h)
  have hown : s.vm.findClass R_MO = some m.cls := findClass_of_methodNamed B.named
  have hlocks := B.notSynchronized
  have hS : va_S (aK am 25) s.heap s.heap [] := va_S.rf
  have hl := lv_entry ([.int p1, .int p2]) (n := 2) (Nat.le_of_ble_eq_true rfl)
  rw [lg_entry_eq]
  generalize (lg_sl ([.int p1, .int p2]) ++ List.replicate (2 - (lg_sl ([.int p1, .int p2])).length) Slot.unset).toArray = ls at hl ⊢
  have hl : lv_has ls 2 [(0, .int p1), (1, .int p2)] := hl
  unfold wp_MO_isRange at hq
  have hh8 : 8 < 9 := by decide
  refine lv_iload_n hx hb d_MO_isRange_0 rfl (lv_at hl 0 rfl) ?_
  refine lv_bipush (v := (-9)) hx hb d_MO_isRange_1 (by decide) ?_
  refine lv_bipush (v := 9) hx hb d_MO_isRange_3 (by decide) ?_
  refine va_calli (va_runS (As := [.int p1, .int (-9), .int 9]) (rest := []) ⟨hx, hb, hml, hown, hts⟩ (c_MO_within (D := D) (cs := cs) hi hq) (va_cwS 3 hts (good_S wC_812 wC_813 wC_50 wC_814) rfl rfl rfl (by decide +kernel) ⟨(show 0 + 1 ≤ 1 by omega), (show 8 + (3 + 11) + 0 ≤ 22 by omega)⟩) ⟨mP_blind, fun U hU hW => ⟨rfl, by rw [hU]; exact hP, va_K.moved hW.alike hK, hN.warm hW⟩⟩ rfl rfl hl.1 rfl (lv_room (Nat.le_of_ble_eq_true rfl)) d_MO_isRange_5 ⟨Nat.le_of_ble_eq_true rfl, Nat.le_of_ble_eq_true rfl⟩) hS (fun q _ h => h) (fun q h => h) (fun r1 s2 t H locs ht0 hvm hq hB hz1 hk1 hS => ?_)
  obtain ⟨hP, -, -⟩ := hB
  rw [ht0] at hP
  refine lv_if_eq (tgt := 38) hx hb d_MO_isRange_8 (by decide) (fun c3 => ?_) (fun c3 => ?_)
  · have hq := hq.1 c3
    refine lv_iconst (v := 0) hx hb d_MO_isRange_38 (by decide) ?_
    exact W.zret hx hb hr rfl (fun t ht hW => ⟨⟨0, s2, rfl, hq, by rw [ht]; exact hP, va_K.moved hW.alike hK, hN.warm hW⟩, hS.F ht⟩) hS.2.2 d_MO_isRange_39
  · have hq := hq.2 c3
    refine lv_iload_n hx hb d_MO_isRange_11 rfl (lv_at hl 1 rfl) ?_
    refine lv_bipush (v := (-9)) hx hb d_MO_isRange_12 (by decide) ?_
    refine lv_bipush (v := 9) hx hb d_MO_isRange_14 (by decide) ?_
    refine va_calli (va_runS (As := [.int p2, .int (-9), .int 9]) (rest := []) ⟨hx, hb, hml, hown, hts⟩ (c_MO_within (D := D) (cs := cs) hi hq) (va_cwS 3 hts (good_S wC_812 wC_813 wC_50 wC_814) rfl rfl rfl (by decide +kernel) ⟨(show 0 + 1 ≤ 1 by omega), (show 8 + (3 + 11) + 0 ≤ 22 by omega)⟩) ⟨mP_blind, fun U hU hW => ⟨rfl, by rw [hU]; exact hP, va_K.moved hW.alike hK, hN.warm hW⟩⟩ rfl rfl hl.1 rfl (lv_room (Nat.le_of_ble_eq_true rfl)) d_MO_isRange_16 ⟨Nat.le_of_ble_eq_true rfl, Nat.le_of_ble_eq_true rfl⟩) hS (fun q _ h => h) (fun q h => h) (fun r4 s5 t H locs ht0 hvm hq hB hz1 hk1 hS => ?_)
    obtain ⟨hP, -, -⟩ := hB
    rw [ht0] at hP
    refine lv_if_eq (tgt := 38) hx hb d_MO_isRange_19 (by decide) (fun c6 => ?_) (fun c6 => ?_)
    · have hq := hq.1 c6
      refine lv_iconst (v := 0) hx hb d_MO_isRange_38 (by decide) ?_
      exact W.zret hx hb hr rfl (fun t ht hW => ⟨⟨0, s5, rfl, hq, by rw [ht]; exact hP, va_K.moved hW.alike hK, hN.warm hW⟩, hS.F ht⟩) hS.2.2 d_MO_isRange_39
    · have hq := hq.2 c6
      refine lv_iload_n hx hb d_MO_isRange_22 rfl (lv_at hl 0 rfl) ?_
      refine lv_iload_n hx hb d_MO_isRange_23 rfl (lv_at hl 1 rfl) ?_
      refine lv_icmp_gt (tgt := 38) hx hb d_MO_isRange_24 (by decide) (fun c7 => ?_) (fun c7 => ?_)
      · have hq := hq.1 c7
        refine lv_iconst (v := 0) hx hb d_MO_isRange_38 (by decide) ?_
        exact W.zret hx hb hr rfl (fun t ht hW => ⟨⟨0, s5, rfl, hq, by rw [ht]; exact hP, va_K.moved hW.alike hK, hN.warm hW⟩, hS.F ht⟩) hS.2.2 d_MO_isRange_39
      · have hq := hq.2 c7
        refine lv_iload_n hx hb d_MO_isRange_27 rfl (lv_at hl 1 rfl) ?_
        refine lv_iload_n hx hb d_MO_isRange_28 rfl (lv_at hl 0 rfl) ?_
        refine lv_isub hx hb d_MO_isRange_29 ?_
        refine lv_iconst (v := 5) hx hb d_MO_isRange_30 (by decide) ?_
        refine lv_icmp_ge (tgt := 38) hx hb d_MO_isRange_31 (by decide) (fun c8 => ?_) (fun c8 => ?_)
        · have hq := hq.1 c8
          refine lv_iconst (v := 0) hx hb d_MO_isRange_38 (by decide) ?_
          exact W.zret hx hb hr rfl (fun t ht hW => ⟨⟨0, s5, rfl, hq, by rw [ht]; exact hP, va_K.moved hW.alike hK, hN.warm hW⟩, hS.F ht⟩) hS.2.2 d_MO_isRange_39
        · have hq := hq.2 c8
          refine lv_iconst (v := 1) hx hb d_MO_isRange_34 (by decide) ?_
          refine lv_goto (tgt := 39) hx hb d_MO_isRange_35 (by decide) ?_
          exact W.zret hx hb hr rfl (fun t ht hW => ⟨⟨1, s5, rfl, hq, by rw [ht]; exact hP, va_K.moved hW.alike hK, hN.warm hW⟩, hS.F ht⟩) hS.2.2 d_MO_isRange_39
def wp_MO_wrong (p1 : Int32) (σ : CS) (Q : CS → Prop) : Prop := (∀ s1 : CS, s1 = sI σ 10 p1 → Q s1)
set_option maxHeartbeats 4000000 in
set_option maxRecDepth 100000 in
theorem c_MO_wrong {l : Launch} {D : va_G} {cs : CI} {am : Nat → Nat} (hi : aI am 25) {p1 : Int32} {σ : CS} {Q : CS → Prop} (hq : wp_MO_wrong p1 σ Q) : Met l y_MO_wrong (.code y_MO_wrong b_MO_wrong 2 none :: wC) ({ frames := 0, cells := 0, slots := 0, locals := 0 }) (va_Pc [.ref (am 0), .int p1] (mP D cs am σ)) (va_Qv Q (mP D cs am) (aK am 25)) 0 0 (aK am 25) := by
  refine Met.ofW (cc := b_MO_wrong) (maxL := 2) (ret := none) (by decide) rfl ?_
  intro p e s m args below meth c s₁ B hml hv
  obtain ⟨rfl, hP, hK, hN⟩ := hv
  have hx := B.exec
  have hb := B.bytes
  have hr := B.returns
  have hts := atoms_spec (ws := .code y_MO_wrong b_MO_wrong 2 none :: wC) B.pre
  have ht : ∀ w ∈ wC, w.before _ s = true := fun w h => hts w (List.mem_cons_of_mem _ h)
  have hown : s.vm.findClass R_MO = some m.cls := findClass_of_methodNamed B.named
  have hlocks := B.notSynchronized
  have hS : va_S (aK am 25) s.heap s.heap [] := va_S.rf
  have hl := lv_entry ([.ref (am 0), .int p1]) (n := 2) (Nat.le_of_ble_eq_true rfl)
  rw [lg_entry_eq]
  generalize (lg_sl ([.ref (am 0), .int p1]) ++ List.replicate (2 - (lg_sl ([.ref (am 0), .int p1])).length) Slot.unset).toArray = ls at hl ⊢
  have hl : lv_has ls 2 [(0, .ref (am 0)), (1, .int p1)] := hl
  unfold wp_MO_wrong at hq
  have hh8 : 8 < 9 := by decide
  refine lv_aload_n hx hb d_MO_wrong_0 rfl (lv_at hl 0 rfl) ?_
  refine lv_iload_n hx hb d_MO_wrong_1 rfl (lv_at hl 1 rfl) ?_
  refine cw_put (C := R_MO) (T := F_MO) (N := 39) (ty := .int) (v := .int p1) hx hb hts (in_MO _) t_MO tok_MO n_MO hown hK hP hi hS 0 (by decide) rfl rfl 34 (by decide) (ht _ wC_716) rfl (by decide +kernel) rfl rfl (Nat.le_of_ble_eq_true rfl) up_MO_fault d_MO_wrong_2 (fun H locs hP hS => ?_)
  obtain ⟨s1, e_s1⟩ : ∃ z, z = sI σ 10 p1 := ⟨_, rfl⟩
  rw [← e_s1] at hP
  have hq := hq s1 e_s1
  exact W.vret hx hb hr (fun t ht hW => ⟨⟨s1, rfl, hq, by rw [ht]; exact hP, va_K.moved hW.alike hK, hN.warm hW⟩, hS.F ht⟩) hS.2.2 d_MO_wrong_5
def wp_MO_deeper  (σ : CS) (Q : CS → Prop) : Prop := (((gI σ 7) = 8 → (wp_MO_wrong 7 σ (fun s6 => Q s6))) ∧ (¬ (gI σ 7) = 8 → (∀ s2 : CS, s2 = sI σ 7 ((gI σ 7) + 1) → (((gI s2 7) ≤ (gI s2 12) → Q s2) ∧ (¬ (gI s2 7) ≤ (gI s2 12) → (∀ s4 : CS, s4 = sI s2 12 (gI s2 7) → Q s4))))))
set_option maxHeartbeats 4000000 in
set_option maxRecDepth 100000 in
theorem c_MO_deeper {l : Launch} {D : va_G} {cs : CI} {am : Nat → Nat} (hi : aI am 25)  {σ : CS} {Q : CS → Prop} (hq : wp_MO_deeper  σ Q) : Met l y_MO_deeper (.code y_MO_deeper b_MO_deeper 1 none :: wC) ({ frames := 1, cells := 0, slots := 0, locals := 21 }) (va_Pc [.ref (am 0)] (mP D cs am σ)) (va_Qv Q (mP D cs am) (aK am 25)) 0 0 (aK am 25) := by
  refine Met.ofW (cc := b_MO_deeper) (maxL := 1) (ret := none) (by decide) rfl ?_
  intro p e s m args below meth c s₁ B hml hv
  obtain ⟨rfl, hP, hK, hN⟩ := hv
  have hx := B.exec
  have hb := B.bytes
  have hr := B.returns
  have hts := atoms_spec (ws := .code y_MO_deeper b_MO_deeper 1 none :: wC) B.pre
  have ht : ∀ w ∈ wC, w.before _ s = true := fun w h => hts w (List.mem_cons_of_mem _ h)
  have hown : s.vm.findClass R_MO = some m.cls := findClass_of_methodNamed B.named
  have hlocks := B.notSynchronized
  have hS : va_S (aK am 25) s.heap s.heap [] := va_S.rf
  have hl := lv_entry ([.ref (am 0)]) (n := 1) (Nat.le_of_ble_eq_true rfl)
  rw [lg_entry_eq]
  generalize (lg_sl ([.ref (am 0)]) ++ List.replicate (1 - (lg_sl ([.ref (am 0)])).length) Slot.unset).toArray = ls at hl ⊢
  have hl : lv_has ls 1 [(0, .ref (am 0))] := hl
  unfold wp_MO_deeper at hq
  have hh8 : 8 < 9 := by decide
  refine lv_aload_n hx hb d_MO_deeper_0 rfl (lv_at hl 0 rfl) ?_
  refine cw_get (C := R_MO) (T := F_MO) (N := 39) (v := .int (gI σ 7)) hx hb hts (in_MO _) hown hK hP 0 (by decide) rfl rfl 22 (by decide) (ht _ wC_704) rfl d_MO_deeper_1 ?_
  refine lv_bipush (v := 8) hx hb d_MO_deeper_4 (by decide) ?_
  refine lv_icmp_ne (tgt := 16) hx hb d_MO_deeper_6 (by decide) (fun c1 => ?_) (fun c1 => ?_)
  · have hq := hq.2 c1
    refine lv_aload_n hx hb d_MO_deeper_16 rfl (lv_at hl 0 rfl) ?_
    refine lv_dup hx hb d_MO_deeper_17 rfl ?_
    refine cw_get (C := R_MO) (T := F_MO) (N := 39) (v := .int (gI σ 7)) hx hb hts (in_MO _) hown hK hP 0 (by decide) rfl rfl 22 (by decide) (ht _ wC_704) rfl d_MO_deeper_18 ?_
    refine lv_iconst (v := 1) hx hb d_MO_deeper_21 (by decide) ?_
    refine lv_iadd hx hb d_MO_deeper_22 ?_
    refine cw_put (C := R_MO) (T := F_MO) (N := 39) (ty := .int) (v := .int ((gI σ 7) + 1)) hx hb hts (in_MO _) t_MO tok_MO n_MO hown hK hP hi hS 0 (by decide) rfl rfl 22 (by decide) (ht _ wC_704) rfl (by decide +kernel) rfl rfl (Nat.le_of_ble_eq_true rfl) up_MO_depth d_MO_deeper_23 (fun H locs hP hS => ?_)
    obtain ⟨s2, e_s2⟩ : ∃ z, z = sI σ 7 ((gI σ 7) + 1) := ⟨_, rfl⟩
    rw [← e_s2] at hP
    have hq := hq s2 e_s2
    refine lv_aload_n hx hb d_MO_deeper_26 rfl (lv_at hl 0 rfl) ?_
    refine cw_get (C := R_MO) (T := F_MO) (N := 39) (v := .int (gI s2 7)) hx hb hts (in_MO _) hown hK hP 0 (by decide) rfl rfl 22 (by decide) (ht _ wC_704) rfl d_MO_deeper_27 ?_
    refine lv_aload_n hx hb d_MO_deeper_30 rfl (lv_at hl 0 rfl) ?_
    refine cw_get (C := R_MO) (T := F_MO) (N := 39) (v := .int (gI s2 12)) hx hb hts (in_MO _) hown hK hP 0 (by decide) rfl rfl 36 (by decide) (ht _ wC_718) rfl d_MO_deeper_31 ?_
    refine lv_icmp_le (tgt := 45) hx hb d_MO_deeper_34 (by decide) (fun c3 => ?_) (fun c3 => ?_)
    · have hq := hq.1 c3
      exact W.vret hx hb hr (fun t ht hW => ⟨⟨s2, rfl, hq, by rw [ht]; exact hP, va_K.moved hW.alike hK, hN.warm hW⟩, hS.F ht⟩) hS.2.2 d_MO_deeper_45
    · have hq := hq.2 c3
      refine lv_aload_n hx hb d_MO_deeper_37 rfl (lv_at hl 0 rfl) ?_
      refine lv_aload_n hx hb d_MO_deeper_38 rfl (lv_at hl 0 rfl) ?_
      refine cw_get (C := R_MO) (T := F_MO) (N := 39) (v := .int (gI s2 7)) hx hb hts (in_MO _) hown hK hP 0 (by decide) rfl rfl 22 (by decide) (ht _ wC_704) rfl d_MO_deeper_39 ?_
      refine cw_put (C := R_MO) (T := F_MO) (N := 39) (ty := .int) (v := .int (gI s2 7)) hx hb hts (in_MO _) t_MO tok_MO n_MO hown hK hP hi hS 0 (by decide) rfl rfl 36 (by decide) (ht _ wC_718) rfl (by decide +kernel) rfl rfl (Nat.le_of_ble_eq_true rfl) up_MO_most d_MO_deeper_42 (fun H locs hP hS => ?_)
      obtain ⟨s4, e_s4⟩ : ∃ z, z = sI s2 12 (gI s2 7) := ⟨_, rfl⟩
      rw [← e_s4] at hP
      have hq := hq s4 e_s4
      exact W.vret hx hb hr (fun t ht hW => ⟨⟨s4, rfl, hq, by rw [ht]; exact hP, va_K.moved hW.alike hK, hN.warm hW⟩, hS.F ht⟩) hS.2.2 d_MO_deeper_45
  · have hq := hq.1 c1
    refine lv_aload_n hx hb d_MO_deeper_9 rfl (lv_at hl 0 rfl) ?_
    refine lv_bipush (v := 7) hx hb d_MO_deeper_10 (by decide) ?_
    refine va_callv (va_runV (As := [.int 7]) (rest := []) ⟨hx, hb, hml, hown, hts⟩ (c_MO_wrong (D := D) (cs := cs) hi hq) (cwV 1 hts (good_V wC_855 wC_857 wC_27 wC_50 wC_858) rfl rfl rfl (by decide +kernel) ⟨(show 0 + 1 ≤ 1 by omega), (show 8 + (2 + 11) + 0 ≤ 21 by omega)⟩) ⟨mP_blind, va_recv hK hP (ci := 5) (q0 := 0) rfl (wd_at (by decide) rfl), fun U hU hW => ⟨rfl, by rw [hU]; exact hP, va_K.moved hW.alike hK, hN.warm hW⟩⟩ rfl rfl hl.1 rfl (lv_room (Nat.le_of_ble_eq_true rfl)) d_MO_deeper_12 ⟨Nat.le_of_ble_eq_true rfl, Nat.le_of_ble_eq_true rfl⟩) hS (fun q _ h => h) (fun q h => h) (fun s6 t H locs ht0 hvm hq hB hz1 hk1 hS => ?_)
    obtain ⟨hP, -, -⟩ := hB
    rw [ht0] at hP
    exact W.vret hx hb hr (fun t ht hW => ⟨⟨s6, rfl, hq, by rw [ht]; exact hP, va_K.moved hW.alike hK, hN.warm hW⟩, hS.F ht⟩) hS.2.2 d_MO_deeper_15
def wp_MO_end (p1 : UInt64) (σ : CS) (Q : CS → Prop) : Prop := (∀ s1 : CS, s1 = sI σ 8 ((gI σ 8) - 1) → (∀ s2 : CS, s2 = sX s1 0 p1 → (vp_in (gI s2 8) 310 ∧ (∀ s3 : CS, s3 = sI s2 7 (gA s2 14 ((gI s2 8).toNatClampNeg)) → (vp_in (gI s3 8) 310 ∧ (∀ s4 : CS, s4 = sI s3 6 (gA s3 15 ((gI s3 8).toNatClampNeg)) → Q s4))))))
set_option maxHeartbeats 4000000 in
set_option maxRecDepth 100000 in
theorem c_MO_end {l : Launch} {D : va_G} {cs : CI} {am : Nat → Nat} (hi : aI am 25) {p1 : UInt64} {σ : CS} {Q : CS → Prop} (hq : wp_MO_end p1 σ Q) : Met l y_MO_end (.code y_MO_end b_MO_end 3 none :: wC) ({ frames := 0, cells := 0, slots := 0, locals := 0 }) (va_Pc [.ref (am 0), .double p1] (mP D cs am σ)) (va_Qv Q (mP D cs am) (aK am 25)) 0 0 (aK am 25) := by
  refine Met.ofW (cc := b_MO_end) (maxL := 3) (ret := none) (by decide) rfl ?_
  intro p e s m args below meth c s₁ B hml hv
  obtain ⟨rfl, hP, hK, hN⟩ := hv
  have hx := B.exec
  have hb := B.bytes
  have hr := B.returns
  have hts := atoms_spec (ws := .code y_MO_end b_MO_end 3 none :: wC) B.pre
  have ht : ∀ w ∈ wC, w.before _ s = true := fun w h => hts w (List.mem_cons_of_mem _ h)
  have hown : s.vm.findClass R_MO = some m.cls := findClass_of_methodNamed B.named
  have hlocks := B.notSynchronized
  have hS : va_S (aK am 25) s.heap s.heap [] := va_S.rf
  have hl := lv_entry ([.ref (am 0), .double p1]) (n := 3) (Nat.le_of_ble_eq_true rfl)
  rw [lg_entry_eq]
  generalize (lg_sl ([.ref (am 0), .double p1]) ++ List.replicate (3 - (lg_sl ([.ref (am 0), .double p1])).length) Slot.unset).toArray = ls at hl ⊢
  have hl : lv_has ls 3 [(0, .ref (am 0)), (1, .double p1)] := hl
  unfold wp_MO_end at hq
  have hh8 : 8 < 9 := by decide
  refine lv_aload_n hx hb d_MO_end_0 rfl (lv_at hl 0 rfl) ?_
  refine lv_dup hx hb d_MO_end_1 rfl ?_
  refine cw_get (C := R_MO) (T := F_MO) (N := 39) (v := .int (gI σ 8)) hx hb hts (in_MO _) hown hK hP 0 (by decide) rfl rfl 32 (by decide) (ht _ wC_714) rfl d_MO_end_2 ?_
  refine lv_iconst (v := 1) hx hb d_MO_end_5 (by decide) ?_
  refine lv_isub hx hb d_MO_end_6 ?_
  refine cw_put (C := R_MO) (T := F_MO) (N := 39) (ty := .int) (v := .int ((gI σ 8) - 1)) hx hb hts (in_MO _) t_MO tok_MO n_MO hown hK hP hi hS 0 (by decide) rfl rfl 32 (by decide) (ht _ wC_714) rfl (by decide +kernel) rfl rfl (Nat.le_of_ble_eq_true rfl) up_MO_top d_MO_end_7 (fun H locs hP hS => ?_)
  obtain ⟨s1, e_s1⟩ : ∃ z, z = sI σ 8 ((gI σ 8) - 1) := ⟨_, rfl⟩
  rw [← e_s1] at hP
  have hq := hq s1 e_s1
  refine lv_aload_n hx hb d_MO_end_10 rfl (lv_at hl 0 rfl) ?_
  refine lv_dload_n hx hb d_MO_end_11 rfl (lv_at hl 1 rfl) ?_
  refine cw_put (C := R_MO) (T := F_MO) (N := 39) (ty := .double) (v := .double p1) hx hb hts (in_MO _) t_MO tok_MO n_MO hown hK hP hi hS 0 (by decide) rfl rfl 38 (by decide) (ht _ wC_720) rfl (by decide +kernel) rfl rfl (Nat.le_of_ble_eq_true rfl) up_MO_value d_MO_end_12 (fun H locs hP hS => ?_)
  obtain ⟨s2, e_s2⟩ : ∃ z, z = sX s1 0 p1 := ⟨_, rfl⟩
  rw [← e_s2] at hP
  have hq := hq s2 e_s2
  refine lv_aload_n hx hb d_MO_end_15 rfl (lv_at hl 0 rfl) ?_
  refine lv_aload_n hx hb d_MO_end_16 rfl (lv_at hl 0 rfl) ?_
  refine cw_get (C := R_MO) (T := F_MO) (N := 39) (v := .ref (am 19)) hx hb hts (in_MO _) hown hK hP 0 (by decide) rfl rfl 26 (by decide) (ht _ wC_708) rfl d_MO_end_17 ?_
  refine lv_aload_n hx hb d_MO_end_20 rfl (lv_at hl 0 rfl) ?_
  refine cw_get (C := R_MO) (T := F_MO) (N := 39) (v := .int (gI s2 8)) hx hb hts (in_MO _) hown hK hP 0 (by decide) rfl rfl 32 (by decide) (ht _ wC_714) rfl d_MO_end_21 ?_
  refine cw_iald hx hb hK hP 19 (by decide) rfl 0 rfl hq.1 d_MO_end_24 ?_
  have hq := hq.2
  refine cw_put (C := R_MO) (T := F_MO) (N := 39) (ty := .int) (v := .int (gA s2 14 ((gI s2 8).toNatClampNeg))) hx hb hts (in_MO _) t_MO tok_MO n_MO hown hK hP hi hS 0 (by decide) rfl rfl 22 (by decide) (ht _ wC_704) rfl (by decide +kernel) rfl rfl (Nat.le_of_ble_eq_true rfl) up_MO_depth d_MO_end_25 (fun H locs hP hS => ?_)
  obtain ⟨s3, e_s3⟩ : ∃ z, z = sI s2 7 (gA s2 14 ((gI s2 8).toNatClampNeg)) := ⟨_, rfl⟩
  rw [← e_s3] at hP
  have hq := hq s3 e_s3
  refine lv_aload_n hx hb d_MO_end_28 rfl (lv_at hl 0 rfl) ?_
  refine lv_aload_n hx hb d_MO_end_29 rfl (lv_at hl 0 rfl) ?_
  refine cw_get (C := R_MO) (T := F_MO) (N := 39) (v := .ref (am 20)) hx hb hts (in_MO _) hown hK hP 0 (by decide) rfl rfl 27 (by decide) (ht _ wC_709) rfl d_MO_end_30 ?_
  refine lv_aload_n hx hb d_MO_end_33 rfl (lv_at hl 0 rfl) ?_
  refine cw_get (C := R_MO) (T := F_MO) (N := 39) (v := .int (gI s3 8)) hx hb hts (in_MO _) hown hK hP 0 (by decide) rfl rfl 32 (by decide) (ht _ wC_714) rfl d_MO_end_34 ?_
  refine cw_iald hx hb hK hP 20 (by decide) rfl 0 rfl hq.1 d_MO_end_37 ?_
  have hq := hq.2
  refine cw_put (C := R_MO) (T := F_MO) (N := 39) (ty := .int) (v := .int (gA s3 15 ((gI s3 8).toNatClampNeg))) hx hb hts (in_MO _) t_MO tok_MO n_MO hown hK hP hi hS 0 (by decide) rfl rfl 21 (by decide) (ht _ wC_703) rfl (by decide +kernel) rfl rfl (Nat.le_of_ble_eq_true rfl) up_MO_environments d_MO_end_38 (fun H locs hP hS => ?_)
  obtain ⟨s4, e_s4⟩ : ∃ z, z = sI s3 6 (gA s3 15 ((gI s3 8).toNatClampNeg)) := ⟨_, rfl⟩
  rw [← e_s4] at hP
  have hq := hq s4 e_s4
  exact W.vret hx hb hr (fun t ht hW => ⟨⟨s4, rfl, hq, by rw [ht]; exact hP, va_K.moved hW.alike hK, hN.warm hW⟩, hS.F ht⟩) hS.2.2 d_MO_end_41
def wp_MO_enter (p1 : Int32) (p2 : Int32) (σ : CS) (Q : CS → Prop) : Prop := (((gI σ 9) = 300 → (wp_MO_wrong 8 σ (fun s13 => Q s13))) ∧ (¬ (gI σ 9) = 300 → (((gI σ 8) = 80 → (wp_MO_wrong 7 σ (fun s11 => Q s11))) ∧ (¬ (gI σ 8) = 80 → (∀ s3 : CS, s3 = sI σ 9 ((gI σ 9) + 1) → (vp_in (gI s3 8) 310 ∧ (∀ s4 : CS, s4 = sA s3 11 (upd (gA s3 11) ((gI s3 8).toNatClampNeg) p1) → (vp_in (gI s4 8) 310 ∧ (∀ s5 : CS, s5 = sA s4 12 (upd (gA s4 12) ((gI s4 8).toNatClampNeg) p2) → (vp_in (gI s5 8) 310 ∧ (∀ s6 : CS, s6 = sA s5 13 (upd (gA s5 13) ((gI s5 8).toNatClampNeg) 0) → (vp_in (gI s6 8) 310 ∧ (∀ s7 : CS, s7 = sA s6 14 (upd (gA s6 14) ((gI s6 8).toNatClampNeg) (gI s6 7)) → (vp_in (gI s7 8) 310 ∧ (∀ s8 : CS, s8 = sA s7 15 (upd (gA s7 15) ((gI s7 8).toNatClampNeg) (gI s7 6)) → (∀ s9 : CS, s9 = sI s8 8 ((gI s8 8) + 1) → Q s9))))))))))))))))
set_option maxHeartbeats 4000000 in
set_option maxRecDepth 100000 in
theorem c_MO_enter {l : Launch} {D : va_G} {cs : CI} {am : Nat → Nat} (hi : aI am 25) {p1 : Int32} {p2 : Int32} {σ : CS} {Q : CS → Prop} (hq : wp_MO_enter p1 p2 σ Q) : Met l y_MO_enter (.code y_MO_enter b_MO_enter 3 none :: wC) ({ frames := 1, cells := 0, slots := 0, locals := 21 }) (va_Pc [.ref (am 0), .int p1, .int p2] (mP D cs am σ)) (va_Qv Q (mP D cs am) (aK am 25)) 0 0 (aK am 25) := by
  refine Met.ofW (cc := b_MO_enter) (maxL := 3) (ret := none) (by decide) rfl ?_
  intro p e s m args below meth c s₁ B hml hv
  obtain ⟨rfl, hP, hK, hN⟩ := hv
  have hx := B.exec
  have hb := B.bytes
  have hr := B.returns
  have hts := atoms_spec (ws := .code y_MO_enter b_MO_enter 3 none :: wC) B.pre
  have ht : ∀ w ∈ wC, w.before _ s = true := fun w h => hts w (List.mem_cons_of_mem _ h)
  have hown : s.vm.findClass R_MO = some m.cls := findClass_of_methodNamed B.named
  have hlocks := B.notSynchronized
  have hS : va_S (aK am 25) s.heap s.heap [] := va_S.rf
  have hl := lv_entry ([.ref (am 0), .int p1, .int p2]) (n := 3) (Nat.le_of_ble_eq_true rfl)
  rw [lg_entry_eq]
  generalize (lg_sl ([.ref (am 0), .int p1, .int p2]) ++ List.replicate (3 - (lg_sl ([.ref (am 0), .int p1, .int p2])).length) Slot.unset).toArray = ls at hl ⊢
  have hl : lv_has ls 3 [(0, .ref (am 0)), (1, .int p1), (2, .int p2)] := hl
  unfold wp_MO_enter at hq
  have hh8 : 8 < 9 := by decide
  refine lv_aload_n hx hb d_MO_enter_0 rfl (lv_at hl 0 rfl) ?_
  refine cw_get (C := R_MO) (T := F_MO) (N := 39) (v := .int (gI σ 9)) hx hb hts (in_MO _) hown hK hP 0 (by decide) rfl rfl 33 (by decide) (ht _ wC_715) rfl d_MO_enter_1 ?_
  refine lv_sipush (v := 300) hx hb d_MO_enter_4 (by decide) ?_
  refine lv_icmp_ne (tgt := 17) hx hb d_MO_enter_7 (by decide) (fun c1 => ?_) (fun c1 => ?_)
  · have hq := hq.2 c1
    refine lv_aload_n hx hb d_MO_enter_17 rfl (lv_at hl 0 rfl) ?_
    refine cw_get (C := R_MO) (T := F_MO) (N := 39) (v := .int (gI σ 8)) hx hb hts (in_MO _) hown hK hP 0 (by decide) rfl rfl 32 (by decide) (ht _ wC_714) rfl d_MO_enter_18 ?_
    refine lv_bipush (v := 80) hx hb d_MO_enter_21 (by decide) ?_
    refine lv_icmp_ne (tgt := 33) hx hb d_MO_enter_23 (by decide) (fun c2 => ?_) (fun c2 => ?_)
    · have hq := hq.2 c2
      refine lv_aload_n hx hb d_MO_enter_33 rfl (lv_at hl 0 rfl) ?_
      refine lv_dup hx hb d_MO_enter_34 rfl ?_
      refine cw_get (C := R_MO) (T := F_MO) (N := 39) (v := .int (gI σ 9)) hx hb hts (in_MO _) hown hK hP 0 (by decide) rfl rfl 33 (by decide) (ht _ wC_715) rfl d_MO_enter_35 ?_
      refine lv_iconst (v := 1) hx hb d_MO_enter_38 (by decide) ?_
      refine lv_iadd hx hb d_MO_enter_39 ?_
      refine cw_put (C := R_MO) (T := F_MO) (N := 39) (ty := .int) (v := .int ((gI σ 9) + 1)) hx hb hts (in_MO _) t_MO tok_MO n_MO hown hK hP hi hS 0 (by decide) rfl rfl 33 (by decide) (ht _ wC_715) rfl (by decide +kernel) rfl rfl (Nat.le_of_ble_eq_true rfl) up_MO_done d_MO_enter_40 (fun H locs hP hS => ?_)
      obtain ⟨s3, e_s3⟩ : ∃ z, z = sI σ 9 ((gI σ 9) + 1) := ⟨_, rfl⟩
      rw [← e_s3] at hP
      have hq := hq s3 e_s3
      refine lv_aload_n hx hb d_MO_enter_43 rfl (lv_at hl 0 rfl) ?_
      refine cw_get (C := R_MO) (T := F_MO) (N := 39) (v := .ref (am 16)) hx hb hts (in_MO _) hown hK hP 0 (by decide) rfl rfl 23 (by decide) (ht _ wC_705) rfl d_MO_enter_44 ?_
      refine lv_aload_n hx hb d_MO_enter_47 rfl (lv_at hl 0 rfl) ?_
      refine cw_get (C := R_MO) (T := F_MO) (N := 39) (v := .int (gI s3 8)) hx hb hts (in_MO _) hown hK hP 0 (by decide) rfl rfl 32 (by decide) (ht _ wC_714) rfl d_MO_enter_48 ?_
      refine lv_iload_n hx hb d_MO_enter_51 rfl (lv_at hl 1 rfl) ?_
      refine cw_iast hx hb hK hP hi hS 16 (by decide) rfl 0 rfl hq.1 mpa_11 d_MO_enter_52 (fun H locs hP hS => ?_)
      have hq := hq.2
      obtain ⟨s4, e_s4⟩ : ∃ z, z = sA s3 11 (upd (gA s3 11) ((gI s3 8).toNatClampNeg) p1) := ⟨_, rfl⟩
      rw [← e_s4] at hP
      have hq := hq s4 e_s4
      refine lv_aload_n hx hb d_MO_enter_53 rfl (lv_at hl 0 rfl) ?_
      refine cw_get (C := R_MO) (T := F_MO) (N := 39) (v := .ref (am 17)) hx hb hts (in_MO _) hown hK hP 0 (by decide) rfl rfl 24 (by decide) (ht _ wC_706) rfl d_MO_enter_54 ?_
      refine lv_aload_n hx hb d_MO_enter_57 rfl (lv_at hl 0 rfl) ?_
      refine cw_get (C := R_MO) (T := F_MO) (N := 39) (v := .int (gI s4 8)) hx hb hts (in_MO _) hown hK hP 0 (by decide) rfl rfl 32 (by decide) (ht _ wC_714) rfl d_MO_enter_58 ?_
      refine lv_iload_n hx hb d_MO_enter_61 rfl (lv_at hl 2 rfl) ?_
      refine cw_iast hx hb hK hP hi hS 17 (by decide) rfl 0 rfl hq.1 mpa_12 d_MO_enter_62 (fun H locs hP hS => ?_)
      have hq := hq.2
      obtain ⟨s5, e_s5⟩ : ∃ z, z = sA s4 12 (upd (gA s4 12) ((gI s4 8).toNatClampNeg) p2) := ⟨_, rfl⟩
      rw [← e_s5] at hP
      have hq := hq s5 e_s5
      refine lv_aload_n hx hb d_MO_enter_63 rfl (lv_at hl 0 rfl) ?_
      refine cw_get (C := R_MO) (T := F_MO) (N := 39) (v := .ref (am 18)) hx hb hts (in_MO _) hown hK hP 0 (by decide) rfl rfl 25 (by decide) (ht _ wC_707) rfl d_MO_enter_64 ?_
      refine lv_aload_n hx hb d_MO_enter_67 rfl (lv_at hl 0 rfl) ?_
      refine cw_get (C := R_MO) (T := F_MO) (N := 39) (v := .int (gI s5 8)) hx hb hts (in_MO _) hown hK hP 0 (by decide) rfl rfl 32 (by decide) (ht _ wC_714) rfl d_MO_enter_68 ?_
      refine lv_iconst (v := 0) hx hb d_MO_enter_71 (by decide) ?_
      refine cw_iast hx hb hK hP hi hS 18 (by decide) rfl 0 rfl hq.1 mpa_13 d_MO_enter_72 (fun H locs hP hS => ?_)
      have hq := hq.2
      obtain ⟨s6, e_s6⟩ : ∃ z, z = sA s5 13 (upd (gA s5 13) ((gI s5 8).toNatClampNeg) 0) := ⟨_, rfl⟩
      rw [← e_s6] at hP
      have hq := hq s6 e_s6
      refine lv_aload_n hx hb d_MO_enter_73 rfl (lv_at hl 0 rfl) ?_
      refine cw_get (C := R_MO) (T := F_MO) (N := 39) (v := .ref (am 19)) hx hb hts (in_MO _) hown hK hP 0 (by decide) rfl rfl 26 (by decide) (ht _ wC_708) rfl d_MO_enter_74 ?_
      refine lv_aload_n hx hb d_MO_enter_77 rfl (lv_at hl 0 rfl) ?_
      refine cw_get (C := R_MO) (T := F_MO) (N := 39) (v := .int (gI s6 8)) hx hb hts (in_MO _) hown hK hP 0 (by decide) rfl rfl 32 (by decide) (ht _ wC_714) rfl d_MO_enter_78 ?_
      refine lv_aload_n hx hb d_MO_enter_81 rfl (lv_at hl 0 rfl) ?_
      refine cw_get (C := R_MO) (T := F_MO) (N := 39) (v := .int (gI s6 7)) hx hb hts (in_MO _) hown hK hP 0 (by decide) rfl rfl 22 (by decide) (ht _ wC_704) rfl d_MO_enter_82 ?_
      refine cw_iast hx hb hK hP hi hS 19 (by decide) rfl 0 rfl hq.1 mpa_14 d_MO_enter_85 (fun H locs hP hS => ?_)
      have hq := hq.2
      obtain ⟨s7, e_s7⟩ : ∃ z, z = sA s6 14 (upd (gA s6 14) ((gI s6 8).toNatClampNeg) (gI s6 7)) := ⟨_, rfl⟩
      rw [← e_s7] at hP
      have hq := hq s7 e_s7
      refine lv_aload_n hx hb d_MO_enter_86 rfl (lv_at hl 0 rfl) ?_
      refine cw_get (C := R_MO) (T := F_MO) (N := 39) (v := .ref (am 20)) hx hb hts (in_MO _) hown hK hP 0 (by decide) rfl rfl 27 (by decide) (ht _ wC_709) rfl d_MO_enter_87 ?_
      refine lv_aload_n hx hb d_MO_enter_90 rfl (lv_at hl 0 rfl) ?_
      refine cw_get (C := R_MO) (T := F_MO) (N := 39) (v := .int (gI s7 8)) hx hb hts (in_MO _) hown hK hP 0 (by decide) rfl rfl 32 (by decide) (ht _ wC_714) rfl d_MO_enter_91 ?_
      refine lv_aload_n hx hb d_MO_enter_94 rfl (lv_at hl 0 rfl) ?_
      refine cw_get (C := R_MO) (T := F_MO) (N := 39) (v := .int (gI s7 6)) hx hb hts (in_MO _) hown hK hP 0 (by decide) rfl rfl 21 (by decide) (ht _ wC_703) rfl d_MO_enter_95 ?_
      refine cw_iast hx hb hK hP hi hS 20 (by decide) rfl 0 rfl hq.1 mpa_15 d_MO_enter_98 (fun H locs hP hS => ?_)
      have hq := hq.2
      obtain ⟨s8, e_s8⟩ : ∃ z, z = sA s7 15 (upd (gA s7 15) ((gI s7 8).toNatClampNeg) (gI s7 6)) := ⟨_, rfl⟩
      rw [← e_s8] at hP
      have hq := hq s8 e_s8
      refine lv_aload_n hx hb d_MO_enter_99 rfl (lv_at hl 0 rfl) ?_
      refine lv_dup hx hb d_MO_enter_100 rfl ?_
      refine cw_get (C := R_MO) (T := F_MO) (N := 39) (v := .int (gI s8 8)) hx hb hts (in_MO _) hown hK hP 0 (by decide) rfl rfl 32 (by decide) (ht _ wC_714) rfl d_MO_enter_101 ?_
      refine lv_iconst (v := 1) hx hb d_MO_enter_104 (by decide) ?_
      refine lv_iadd hx hb d_MO_enter_105 ?_
      refine cw_put (C := R_MO) (T := F_MO) (N := 39) (ty := .int) (v := .int ((gI s8 8) + 1)) hx hb hts (in_MO _) t_MO tok_MO n_MO hown hK hP hi hS 0 (by decide) rfl rfl 32 (by decide) (ht _ wC_714) rfl (by decide +kernel) rfl rfl (Nat.le_of_ble_eq_true rfl) up_MO_top d_MO_enter_106 (fun H locs hP hS => ?_)
      obtain ⟨s9, e_s9⟩ : ∃ z, z = sI s8 8 ((gI s8 8) + 1) := ⟨_, rfl⟩
      rw [← e_s9] at hP
      have hq := hq s9 e_s9
      exact W.vret hx hb hr (fun t ht hW => ⟨⟨s9, rfl, hq, by rw [ht]; exact hP, va_K.moved hW.alike hK, hN.warm hW⟩, hS.F ht⟩) hS.2.2 d_MO_enter_109
    · have hq := hq.1 c2
      refine lv_aload_n hx hb d_MO_enter_26 rfl (lv_at hl 0 rfl) ?_
      refine lv_bipush (v := 7) hx hb d_MO_enter_27 (by decide) ?_
      refine va_callv (va_runV (As := [.int 7]) (rest := []) ⟨hx, hb, hml, hown, hts⟩ (c_MO_wrong (D := D) (cs := cs) hi hq) (cwV 1 hts (good_V wC_855 wC_857 wC_27 wC_50 wC_858) rfl rfl rfl (by decide +kernel) ⟨(show 0 + 1 ≤ 1 by omega), (show 8 + (2 + 11) + 0 ≤ 21 by omega)⟩) ⟨mP_blind, va_recv hK hP (ci := 5) (q0 := 0) rfl (wd_at (by decide) rfl), fun U hU hW => ⟨rfl, by rw [hU]; exact hP, va_K.moved hW.alike hK, hN.warm hW⟩⟩ rfl rfl hl.1 rfl (lv_room (Nat.le_of_ble_eq_true rfl)) d_MO_enter_29 ⟨Nat.le_of_ble_eq_true rfl, Nat.le_of_ble_eq_true rfl⟩) hS (fun q _ h => h) (fun q h => h) (fun s11 t H locs ht0 hvm hq hB hz1 hk1 hS => ?_)
      obtain ⟨hP, -, -⟩ := hB
      rw [ht0] at hP
      exact W.vret hx hb hr (fun t ht hW => ⟨⟨s11, rfl, hq, by rw [ht]; exact hP, va_K.moved hW.alike hK, hN.warm hW⟩, hS.F ht⟩) hS.2.2 d_MO_enter_32
  · have hq := hq.1 c1
    refine lv_aload_n hx hb d_MO_enter_10 rfl (lv_at hl 0 rfl) ?_
    refine lv_bipush (v := 8) hx hb d_MO_enter_11 (by decide) ?_
    refine va_callv (va_runV (As := [.int 8]) (rest := []) ⟨hx, hb, hml, hown, hts⟩ (c_MO_wrong (D := D) (cs := cs) hi hq) (cwV 1 hts (good_V wC_855 wC_857 wC_27 wC_50 wC_858) rfl rfl rfl (by decide +kernel) ⟨(show 0 + 1 ≤ 1 by omega), (show 8 + (2 + 11) + 0 ≤ 21 by omega)⟩) ⟨mP_blind, va_recv hK hP (ci := 5) (q0 := 0) rfl (wd_at (by decide) rfl), fun U hU hW => ⟨rfl, by rw [hU]; exact hP, va_K.moved hW.alike hK, hN.warm hW⟩⟩ rfl rfl hl.1 rfl (lv_room (Nat.le_of_ble_eq_true rfl)) d_MO_enter_13 ⟨Nat.le_of_ble_eq_true rfl, Nat.le_of_ble_eq_true rfl⟩) hS (fun q _ h => h) (fun q h => h) (fun s13 t H locs ht0 hvm hq hB hz1 hk1 hS => ?_)
    obtain ⟨hP, -, -⟩ := hB
    rw [ht0] at hP
    exact W.vret hx hb hr (fun t ht hW => ⟨⟨s13, rfl, hq, by rw [ht]; exact hP, va_K.moved hW.alike hK, hN.warm hW⟩, hS.F ht⟩) hS.2.2 d_MO_enter_16
def wp_MO_place (p1 : UInt64) (p2 : UInt64) (σ : CS) (Q : Int32 → CS → Prop) : Prop := (((Op.cmpValue (FP.dcmp p1 (FP.i2d (gI σ 1))) .l) < 0 → Q (-1) σ) ∧ (¬ (Op.cmpValue (FP.dcmp p1 (FP.i2d (gI σ 1))) .l) < 0 → ((0 < (Op.cmpValue (FP.dcmp p1 (FP.i2d (gI σ 2))) .g) → Q (-1) σ) ∧ (¬ 0 < (Op.cmpValue (FP.dcmp p1 (FP.i2d (gI σ 2))) .g) → (((Op.cmpValue (FP.dcmp p2 (FP.i2d (gI σ 3))) .l) < 0 → Q (-1) σ) ∧ (¬ (Op.cmpValue (FP.dcmp p2 (FP.i2d (gI σ 3))) .l) < 0 → (((Op.cmpValue (FP.dcmp p2 (FP.i2d (gI σ 4))) .g) ≤ 0 → (vf_n64 (FP.dsub p1 (FP.i2d (gI σ 1))) ∧ (vf_n64 (FP.dsub p2 (FP.i2d (gI σ 3))) ∧ Q ((5 * (FP.d2i (FP.dsub p1 (FP.i2d (gI σ 1))))) + (FP.d2i (FP.dsub p2 (FP.i2d (gI σ 3))))) σ))) ∧ (¬ (Op.cmpValue (FP.dcmp p2 (FP.i2d (gI σ 4))) .g) ≤ 0 → Q (-1) σ))))))))
set_option maxHeartbeats 4000000 in
set_option maxRecDepth 100000 in
theorem c_MO_place {l : Launch} {D : va_G} {cs : CI} {am : Nat → Nat} (hi : aI am 25) {p1 : UInt64} {p2 : UInt64} {σ : CS} {Q : Int32 → CS → Prop} (hq : wp_MO_place p1 p2 σ Q) : Met l y_MO_place (.code y_MO_place b_MO_place 5 (some .int) :: wC) ({ frames := 0, cells := 0, slots := 0, locals := 0 }) (va_Pc [.ref (am 0), .double p1, .double p2] (mP D cs am σ)) (va_Qi Q (mP D cs am) (aK am 25)) 0 0 (aK am 25) := by
  refine Met.ofW (cc := b_MO_place) (maxL := 5) (ret := (some .int)) (by decide) rfl ?_
  intro p e s m args below meth c s₁ B hml hv
  obtain ⟨rfl, hP, hK, hN⟩ := hv
  have hx := B.exec
  have hb := B.bytes
  have hr := B.returns
  have hts := atoms_spec (ws := .code y_MO_place b_MO_place 5 (some .int) :: wC) B.pre
  have ht : ∀ w ∈ wC, w.before _ s = true := fun w h => hts w (List.mem_cons_of_mem _ h)
  have hown : s.vm.findClass R_MO = some m.cls := findClass_of_methodNamed B.named
  have hlocks := B.notSynchronized
  have hS : va_S (aK am 25) s.heap s.heap [] := va_S.rf
  have hl := lv_entry ([.ref (am 0), .double p1, .double p2]) (n := 5) (Nat.le_of_ble_eq_true rfl)
  rw [lg_entry_eq]
  generalize (lg_sl ([.ref (am 0), .double p1, .double p2]) ++ List.replicate (5 - (lg_sl ([.ref (am 0), .double p1, .double p2])).length) Slot.unset).toArray = ls at hl ⊢
  have hl : lv_has ls 5 [(0, .ref (am 0)), (1, .double p1), (3, .double p2)] := hl
  unfold wp_MO_place at hq
  have hh8 : 8 < 9 := by decide
  refine lv_dload_n hx hb d_MO_place_0 rfl (lv_at hl 1 rfl) ?_
  refine lv_aload_n hx hb d_MO_place_1 rfl (lv_at hl 0 rfl) ?_
  refine cw_get (C := R_MO) (T := F_MO) (N := 39) (v := .int (gI σ 1)) hx hb hts (in_MO _) hown hK hP 0 (by decide) rfl rfl 10 (by decide) (ht _ wC_692) rfl d_MO_place_2 ?_
  refine lv_i2d hx hb d_MO_place_5 ?_
  refine lv_dcmp hx hb d_MO_place_6 ?_
  refine lv_if_lt (tgt := 40) hx hb d_MO_place_7 (by decide) (fun c1 => ?_) (fun c1 => ?_)
  · have hq := hq.1 c1
    refine lv_iconst (v := (-1)) hx hb d_MO_place_40 (by decide) ?_
    exact W.iret hx hb hr (fun t ht hW => ⟨⟨(-1), σ, rfl, hq, by rw [ht]; exact hP, va_K.moved hW.alike hK, hN.warm hW⟩, hS.F ht⟩) hS.2.2 d_MO_place_41
  · have hq := hq.2 c1
    refine lv_dload_n hx hb d_MO_place_10 rfl (lv_at hl 1 rfl) ?_
    refine lv_aload_n hx hb d_MO_place_11 rfl (lv_at hl 0 rfl) ?_
    refine cw_get (C := R_MO) (T := F_MO) (N := 39) (v := .int (gI σ 2)) hx hb hts (in_MO _) hown hK hP 0 (by decide) rfl rfl 11 (by decide) (ht _ wC_693) rfl d_MO_place_12 ?_
    refine lv_i2d hx hb d_MO_place_15 ?_
    refine lv_dcmp hx hb d_MO_place_16 ?_
    refine lv_if_gt (tgt := 40) hx hb d_MO_place_17 (by decide) (fun c2 => ?_) (fun c2 => ?_)
    · have hq := hq.1 c2
      refine lv_iconst (v := (-1)) hx hb d_MO_place_40 (by decide) ?_
      exact W.iret hx hb hr (fun t ht hW => ⟨⟨(-1), σ, rfl, hq, by rw [ht]; exact hP, va_K.moved hW.alike hK, hN.warm hW⟩, hS.F ht⟩) hS.2.2 d_MO_place_41
    · have hq := hq.2 c2
      refine lv_dload_n hx hb d_MO_place_20 rfl (lv_at hl 2 rfl) ?_
      refine lv_aload_n hx hb d_MO_place_21 rfl (lv_at hl 0 rfl) ?_
      refine cw_get (C := R_MO) (T := F_MO) (N := 39) (v := .int (gI σ 3)) hx hb hts (in_MO _) hown hK hP 0 (by decide) rfl rfl 12 (by decide) (ht _ wC_694) rfl d_MO_place_22 ?_
      refine lv_i2d hx hb d_MO_place_25 ?_
      refine lv_dcmp hx hb d_MO_place_26 ?_
      refine lv_if_lt (tgt := 40) hx hb d_MO_place_27 (by decide) (fun c3 => ?_) (fun c3 => ?_)
      · have hq := hq.1 c3
        refine lv_iconst (v := (-1)) hx hb d_MO_place_40 (by decide) ?_
        exact W.iret hx hb hr (fun t ht hW => ⟨⟨(-1), σ, rfl, hq, by rw [ht]; exact hP, va_K.moved hW.alike hK, hN.warm hW⟩, hS.F ht⟩) hS.2.2 d_MO_place_41
      · have hq := hq.2 c3
        refine lv_dload_n hx hb d_MO_place_30 rfl (lv_at hl 2 rfl) ?_
        refine lv_aload_n hx hb d_MO_place_31 rfl (lv_at hl 0 rfl) ?_
        refine cw_get (C := R_MO) (T := F_MO) (N := 39) (v := .int (gI σ 4)) hx hb hts (in_MO _) hown hK hP 0 (by decide) rfl rfl 13 (by decide) (ht _ wC_695) rfl d_MO_place_32 ?_
        refine lv_i2d hx hb d_MO_place_35 ?_
        refine lv_dcmp hx hb d_MO_place_36 ?_
        refine lv_if_le (tgt := 42) hx hb d_MO_place_37 (by decide) (fun c4 => ?_) (fun c4 => ?_)
        · have hq := hq.1 c4
          refine lv_iconst (v := 5) hx hb d_MO_place_42 (by decide) ?_
          refine lv_dload_n hx hb d_MO_place_43 rfl (lv_at hl 1 rfl) ?_
          refine lv_aload_n hx hb d_MO_place_44 rfl (lv_at hl 0 rfl) ?_
          refine cw_get (C := R_MO) (T := F_MO) (N := 39) (v := .int (gI σ 1)) hx hb hts (in_MO _) hown hK hP 0 (by decide) rfl rfl 10 (by decide) (ht _ wC_692) rfl d_MO_place_45 ?_
          refine lv_i2d hx hb d_MO_place_48 ?_
          refine lv_dsub hx hb d_MO_place_49 hq.1 ?_
          have hq := hq.2
          refine lv_d2i hx hb d_MO_place_50 ?_
          refine lv_imul hx hb d_MO_place_51 ?_
          refine lv_dload_n hx hb d_MO_place_52 rfl (lv_at hl 2 rfl) ?_
          refine lv_aload_n hx hb d_MO_place_53 rfl (lv_at hl 0 rfl) ?_
          refine cw_get (C := R_MO) (T := F_MO) (N := 39) (v := .int (gI σ 3)) hx hb hts (in_MO _) hown hK hP 0 (by decide) rfl rfl 12 (by decide) (ht _ wC_694) rfl d_MO_place_54 ?_
          refine lv_i2d hx hb d_MO_place_57 ?_
          refine lv_dsub hx hb d_MO_place_58 hq.1 ?_
          have hq := hq.2
          refine lv_d2i hx hb d_MO_place_59 ?_
          refine lv_iadd hx hb d_MO_place_60 ?_
          exact W.iret hx hb hr (fun t ht hW => ⟨⟨((5 * (FP.d2i (FP.dsub p1 (FP.i2d (gI σ 1))))) + (FP.d2i (FP.dsub p2 (FP.i2d (gI σ 3))))), σ, rfl, hq, by rw [ht]; exact hP, va_K.moved hW.alike hK, hN.warm hW⟩, hS.F ht⟩) hS.2.2 d_MO_place_61
        · have hq := hq.2 c4
          refine lv_iconst (v := (-1)) hx hb d_MO_place_40 (by decide) ?_
          exact W.iret hx hb hr (fun t ht hW => ⟨⟨(-1), σ, rfl, hq, by rw [ht]; exact hP, va_K.moved hW.alike hK, hN.warm hW⟩, hS.F ht⟩) hS.2.2 d_MO_place_41
def wp_MO_sum (p1 : Int32) (p2 : UInt64) (p3 : UInt64) (σ : CS) (Q : CS → Prop) : Prop := ((p1 = 7 → (wp_MO_round p2 σ (fun r143 s144 => (wp_MO_round p3 s144 (fun r145 s146 => (((lg_cmp (FP.d2l r145) 0) = 0 → (wp_MO_wrong 1 s146 (fun s152 => (((gI s152 10) = 0 → (wp_MO_end FP.dconst0 s152 (fun s155 => Q s155))) ∧ (¬ (gI s152 10) = 0 → Q s152))))) ∧ (¬ (lg_cmp (FP.d2l r145) 0) = 0 → (¬ (FP.d2l r145) = 0 ∧ (((gI s146 10) = 0 → (wp_MO_end (FP.l2d ((FP.d2l r143) / (FP.d2l r145))) s146 (fun s150 => Q s150))) ∧ (¬ (gI s146 10) = 0 → Q s146)))))))))) ∧ (¬ p1 = 7 → ((p1 = 8 → ((0 ≤ (Op.cmpValue (FP.dcmp p2 p3) .g) → (((gI σ 10) = 0 → (wp_MO_end FP.dconst0 σ (fun s139 => Q s139))) ∧ (¬ (gI σ 10) = 0 → Q σ))) ∧ (¬ 0 ≤ (Op.cmpValue (FP.dcmp p2 p3) .g) → (((gI σ 10) = 0 → (wp_MO_end FP.dconst1 σ (fun s142 => Q s142))) ∧ (¬ (gI σ 10) = 0 → Q σ))))) ∧ (¬ p1 = 8 → ((p1 = 6 → (((Op.cmpValue (FP.dcmp p3 FP.dconst0) .l) = 0 → (wp_MO_wrong 1 σ (fun s132 => (((gI s132 10) = 0 → (wp_MO_end FP.dconst0 s132 (fun s135 => Q s135))) ∧ (¬ (gI s132 10) = 0 → Q s132))))) ∧ (¬ (Op.cmpValue (FP.dcmp p3 FP.dconst0) .l) = 0 → ((p1 = 3 → (vf_n64 (FP.dadd p2 p3) ∧ (((gI σ 10) = 0 → (wp_MO_isGood (FP.dadd p2 p3) σ (fun r120 s121 => ((r120 = 0 → (wp_MO_wrong 2 s121 (fun s127 => (((gI s127 10) = 0 → (wp_MO_end (FP.dadd p2 p3) s127 (fun s130 => Q s130))) ∧ (¬ (gI s127 10) = 0 → Q s127))))) ∧ (¬ r120 = 0 → (((gI s121 10) = 0 → (wp_MO_end (FP.dadd p2 p3) s121 (fun s125 => Q s125))) ∧ (¬ (gI s121 10) = 0 → Q s121))))))) ∧ (¬ (gI σ 10) = 0 → (((gI σ 10) = 0 → (wp_MO_end (FP.dadd p2 p3) σ (fun s119 => Q s119))) ∧ (¬ (gI σ 10) = 0 → Q σ)))))) ∧ (¬ p1 = 3 → ((p1 = 4 → (vf_n64 (FP.dsub p2 p3) ∧ (((gI σ 10) = 0 → (wp_MO_isGood (FP.dsub p2 p3) σ (fun r105 s106 => ((r105 = 0 → (wp_MO_wrong 2 s106 (fun s112 => (((gI s112 10) = 0 → (wp_MO_end (FP.dsub p2 p3) s112 (fun s115 => Q s115))) ∧ (¬ (gI s112 10) = 0 → Q s112))))) ∧ (¬ r105 = 0 → (((gI s106 10) = 0 → (wp_MO_end (FP.dsub p2 p3) s106 (fun s110 => Q s110))) ∧ (¬ (gI s106 10) = 0 → Q s106))))))) ∧ (¬ (gI σ 10) = 0 → (((gI σ 10) = 0 → (wp_MO_end (FP.dsub p2 p3) σ (fun s104 => Q s104))) ∧ (¬ (gI σ 10) = 0 → Q σ)))))) ∧ (¬ p1 = 4 → ((p1 = 5 → (vf_n64 (FP.dmul p2 p3) ∧ (((gI σ 10) = 0 → (wp_MO_isGood (FP.dmul p2 p3) σ (fun r90 s91 => ((r90 = 0 → (wp_MO_wrong 2 s91 (fun s97 => (((gI s97 10) = 0 → (wp_MO_end (FP.dmul p2 p3) s97 (fun s100 => Q s100))) ∧ (¬ (gI s97 10) = 0 → Q s97))))) ∧ (¬ r90 = 0 → (((gI s91 10) = 0 → (wp_MO_end (FP.dmul p2 p3) s91 (fun s95 => Q s95))) ∧ (¬ (gI s91 10) = 0 → Q s91))))))) ∧ (¬ (gI σ 10) = 0 → (((gI σ 10) = 0 → (wp_MO_end (FP.dmul p2 p3) σ (fun s89 => Q s89))) ∧ (¬ (gI σ 10) = 0 → Q σ)))))) ∧ (¬ p1 = 5 → (vf_n64 (FP.ddiv p2 p3) ∧ (((gI σ 10) = 0 → (wp_MO_isGood (FP.ddiv p2 p3) σ (fun r75 s76 => ((r75 = 0 → (wp_MO_wrong 2 s76 (fun s82 => (((gI s82 10) = 0 → (wp_MO_end (FP.ddiv p2 p3) s82 (fun s85 => Q s85))) ∧ (¬ (gI s82 10) = 0 → Q s82))))) ∧ (¬ r75 = 0 → (((gI s76 10) = 0 → (wp_MO_end (FP.ddiv p2 p3) s76 (fun s80 => Q s80))) ∧ (¬ (gI s76 10) = 0 → Q s76))))))) ∧ (¬ (gI σ 10) = 0 → (((gI σ 10) = 0 → (wp_MO_end (FP.ddiv p2 p3) σ (fun s74 => Q s74))) ∧ (¬ (gI σ 10) = 0 → Q σ)))))))))))))) ∧ (¬ p1 = 6 → ((p1 = 3 → (vf_n64 (FP.dadd p2 p3) ∧ (((gI σ 10) = 0 → (wp_MO_isGood (FP.dadd p2 p3) σ (fun r56 s57 => ((r56 = 0 → (wp_MO_wrong 2 s57 (fun s63 => (((gI s63 10) = 0 → (wp_MO_end (FP.dadd p2 p3) s63 (fun s66 => Q s66))) ∧ (¬ (gI s63 10) = 0 → Q s63))))) ∧ (¬ r56 = 0 → (((gI s57 10) = 0 → (wp_MO_end (FP.dadd p2 p3) s57 (fun s61 => Q s61))) ∧ (¬ (gI s57 10) = 0 → Q s57))))))) ∧ (¬ (gI σ 10) = 0 → (((gI σ 10) = 0 → (wp_MO_end (FP.dadd p2 p3) σ (fun s55 => Q s55))) ∧ (¬ (gI σ 10) = 0 → Q σ)))))) ∧ (¬ p1 = 3 → ((p1 = 4 → (vf_n64 (FP.dsub p2 p3) ∧ (((gI σ 10) = 0 → (wp_MO_isGood (FP.dsub p2 p3) σ (fun r41 s42 => ((r41 = 0 → (wp_MO_wrong 2 s42 (fun s48 => (((gI s48 10) = 0 → (wp_MO_end (FP.dsub p2 p3) s48 (fun s51 => Q s51))) ∧ (¬ (gI s48 10) = 0 → Q s48))))) ∧ (¬ r41 = 0 → (((gI s42 10) = 0 → (wp_MO_end (FP.dsub p2 p3) s42 (fun s46 => Q s46))) ∧ (¬ (gI s42 10) = 0 → Q s42))))))) ∧ (¬ (gI σ 10) = 0 → (((gI σ 10) = 0 → (wp_MO_end (FP.dsub p2 p3) σ (fun s40 => Q s40))) ∧ (¬ (gI σ 10) = 0 → Q σ)))))) ∧ (¬ p1 = 4 → ((p1 = 5 → (vf_n64 (FP.dmul p2 p3) ∧ (((gI σ 10) = 0 → (wp_MO_isGood (FP.dmul p2 p3) σ (fun r26 s27 => ((r26 = 0 → (wp_MO_wrong 2 s27 (fun s33 => (((gI s33 10) = 0 → (wp_MO_end (FP.dmul p2 p3) s33 (fun s36 => Q s36))) ∧ (¬ (gI s33 10) = 0 → Q s33))))) ∧ (¬ r26 = 0 → (((gI s27 10) = 0 → (wp_MO_end (FP.dmul p2 p3) s27 (fun s31 => Q s31))) ∧ (¬ (gI s27 10) = 0 → Q s27))))))) ∧ (¬ (gI σ 10) = 0 → (((gI σ 10) = 0 → (wp_MO_end (FP.dmul p2 p3) σ (fun s25 => Q s25))) ∧ (¬ (gI σ 10) = 0 → Q σ)))))) ∧ (¬ p1 = 5 → (vf_n64 (FP.ddiv p2 p3) ∧ (((gI σ 10) = 0 → (wp_MO_isGood (FP.ddiv p2 p3) σ (fun r11 s12 => ((r11 = 0 → (wp_MO_wrong 2 s12 (fun s18 => (((gI s18 10) = 0 → (wp_MO_end (FP.ddiv p2 p3) s18 (fun s21 => Q s21))) ∧ (¬ (gI s18 10) = 0 → Q s18))))) ∧ (¬ r11 = 0 → (((gI s12 10) = 0 → (wp_MO_end (FP.ddiv p2 p3) s12 (fun s16 => Q s16))) ∧ (¬ (gI s12 10) = 0 → Q s12))))))) ∧ (¬ (gI σ 10) = 0 → (((gI σ 10) = 0 → (wp_MO_end (FP.ddiv p2 p3) σ (fun s10 => Q s10))) ∧ (¬ (gI σ 10) = 0 → Q σ)))))))))))))))))
set_option maxHeartbeats 4000000 in
set_option maxRecDepth 100000 in
theorem c_MO_sum {l : Launch} {D : va_G} {cs : CI} {am : Nat → Nat} (hi : aI am 25) {p1 : Int32} {p2 : UInt64} {p3 : UInt64} {σ : CS} {Q : CS → Prop} (hq : wp_MO_sum p1 p2 p3 σ Q) : Met l y_MO_sum (.code y_MO_sum b_MO_sum 12 none :: wC) ({ frames := 1, cells := 0, slots := 0, locals := 25 }) (va_Pc [.ref (am 0), .int p1, .double p2, .double p3] (mP D cs am σ)) (va_Qv Q (mP D cs am) (aK am 25)) 0 0 (aK am 25) := by
  refine Met.ofW (cc := b_MO_sum) (maxL := 12) (ret := none) (by decide) rfl ?_
  intro p e s m args below meth c s₁ B hml hv
  obtain ⟨rfl, hP, hK, hN⟩ := hv
  have hx := B.exec
  have hb := B.bytes
  have hr := B.returns
  have hts := atoms_spec (ws := .code y_MO_sum b_MO_sum 12 none :: wC) B.pre
  have ht : ∀ w ∈ wC, w.before _ s = true := fun w h => hts w (List.mem_cons_of_mem _ h)
  have hown : s.vm.findClass R_MO = some m.cls := findClass_of_methodNamed B.named
  have hlocks := B.notSynchronized
  have hS : va_S (aK am 25) s.heap s.heap [] := va_S.rf
  have hl := lv_entry ([.ref (am 0), .int p1, .double p2, .double p3]) (n := 12) (Nat.le_of_ble_eq_true rfl)
  rw [lg_entry_eq]
  generalize (lg_sl ([.ref (am 0), .int p1, .double p2, .double p3]) ++ List.replicate (12 - (lg_sl ([.ref (am 0), .int p1, .double p2, .double p3])).length) Slot.unset).toArray = ls at hl ⊢
  have hl : lv_has ls 12 [(0, .ref (am 0)), (1, .int p1), (2, .double p2), (4, .double p3)] := hl
  unfold wp_MO_sum at hq
  have hh8 : 8 < 9 := by decide
  refine lv_dconst0 hx hb d_MO_sum_0 ?_
  refine lv_dstore (lv' := [(6, .double FP.dconst0), (0, .ref (am 0)), (1, .int p1), (2, .double p2), (4, .double p3)]) hx hb d_MO_sum_1 hl (by decide) rfl (fun ls hl => ?_)
  refine lv_iload_n hx hb d_MO_sum_3 rfl (lv_at hl 2 rfl) ?_
  refine lv_bipush (v := 7) hx hb d_MO_sum_4 (by decide) ?_
  refine lv_icmp_ne (tgt := 50) hx hb d_MO_sum_6 (by decide) (fun c1 => ?_) (fun c1 => ?_)
  · have hq := hq.2 c1
    refine lv_iload_n hx hb d_MO_sum_50 rfl (lv_at hl 2 rfl) ?_
    refine lv_bipush (v := 8) hx hb d_MO_sum_51 (by decide) ?_
    refine lv_icmp_ne (tgt := 73) hx hb d_MO_sum_53 (by decide) (fun c2 => ?_) (fun c2 => ?_)
    · have hq := hq.2 c2
      refine lv_iload_n hx hb d_MO_sum_73 rfl (lv_at hl 2 rfl) ?_
      refine lv_bipush (v := 6) hx hb d_MO_sum_74 (by decide) ?_
      refine lv_icmp_ne (tgt := 94) hx hb d_MO_sum_76 (by decide) (fun c3 => ?_) (fun c3 => ?_)
      · have hq := hq.2 c3
        refine lv_iload_n hx hb d_MO_sum_94 rfl (lv_at hl 2 rfl) ?_
        refine lv_iconst (v := 3) hx hb d_MO_sum_95 (by decide) ?_
        refine lv_icmp_ne (tgt := 106) hx hb d_MO_sum_96 (by decide) (fun c4 => ?_) (fun c4 => ?_)
        · have hq := hq.2 c4
          refine lv_iload_n hx hb d_MO_sum_106 rfl (lv_at hl 2 rfl) ?_
          refine lv_iconst (v := 4) hx hb d_MO_sum_107 (by decide) ?_
          refine lv_icmp_ne (tgt := 118) hx hb d_MO_sum_108 (by decide) (fun c5 => ?_) (fun c5 => ?_)
          · have hq := hq.2 c5
            refine lv_iload_n hx hb d_MO_sum_118 rfl (lv_at hl 2 rfl) ?_
            refine lv_iconst (v := 5) hx hb d_MO_sum_119 (by decide) ?_
            refine lv_icmp_ne (tgt := 130) hx hb d_MO_sum_120 (by decide) (fun c6 => ?_) (fun c6 => ?_)
            · have hq := hq.2 c6
              refine lv_dload_n hx hb d_MO_sum_130 rfl (lv_at hl 3 rfl) ?_
              refine lv_dload hx hb d_MO_sum_131 (lv_at hl 4 rfl) ?_
              refine lv_ddiv hx hb d_MO_sum_133 hq.1 ?_
              have hq := hq.2
              refine lv_dstore (lv' := [(6, .double (FP.ddiv p2 p3)), (0, .ref (am 0)), (1, .int p1), (2, .double p2), (4, .double p3)]) hx hb d_MO_sum_134 hl (by decide) rfl (fun ls hl => ?_)
              refine lv_aload_n hx hb d_MO_sum_136 rfl (lv_at hl 1 rfl) ?_
              refine cw_get (C := R_MO) (T := F_MO) (N := 39) (v := .int (gI σ 10)) hx hb hts (in_MO _) hown hK hP 0 (by decide) rfl rfl 34 (by decide) (ht _ wC_716) rfl d_MO_sum_137 ?_
              refine lv_if_ne (tgt := 156) hx hb d_MO_sum_140 (by decide) (fun c7 => ?_) (fun c7 => ?_)
              · have hq := hq.2 c7
                refine lv_aload_n hx hb d_MO_sum_156 rfl (lv_at hl 1 rfl) ?_
                refine cw_get (C := R_MO) (T := F_MO) (N := 39) (v := .int (gI σ 10)) hx hb hts (in_MO _) hown hK hP 0 (by decide) rfl rfl 34 (by decide) (ht _ wC_716) rfl d_MO_sum_157 ?_
                refine lv_if_ne (tgt := 169) hx hb d_MO_sum_160 (by decide) (fun c8 => ?_) (fun c8 => ?_)
                · have hq := hq.2 c8
                  exact W.vret hx hb hr (fun t ht hW => ⟨⟨σ, rfl, hq, by rw [ht]; exact hP, va_K.moved hW.alike hK, hN.warm hW⟩, hS.F ht⟩) hS.2.2 d_MO_sum_169
                · have hq := hq.1 c8
                  refine lv_aload_n hx hb d_MO_sum_163 rfl (lv_at hl 1 rfl) ?_
                  refine lv_dload hx hb d_MO_sum_164 (lv_at hl 0 rfl) ?_
                  refine va_callv (va_runV (As := [.double (FP.ddiv p2 p3)]) (rest := []) ⟨hx, hb, hml, hown, hts⟩ (c_MO_end (D := D) (cs := cs) hi hq) (cwV 1 hts (good_V wC_864 wC_866 wC_29 wC_50 wC_867) rfl rfl rfl (by decide +kernel) ⟨(show 0 + 1 ≤ 1 by omega), (show 8 + (3 + 11) + 0 ≤ 25 by omega)⟩) ⟨mP_blind, va_recv hK hP (ci := 5) (q0 := 0) rfl (wd_at (by decide) rfl), fun U hU hW => ⟨rfl, by rw [hU]; exact hP, va_K.moved hW.alike hK, hN.warm hW⟩⟩ rfl rfl hl.1 rfl (lv_room (Nat.le_of_ble_eq_true rfl)) d_MO_sum_166 ⟨Nat.le_of_ble_eq_true rfl, Nat.le_of_ble_eq_true rfl⟩) hS (fun q _ h => h) (fun q h => h) (fun s10 t H locs ht0 hvm hq hB hz1 hk1 hS => ?_)
                  obtain ⟨hP, -, -⟩ := hB
                  rw [ht0] at hP
                  exact W.vret hx hb hr (fun t ht hW => ⟨⟨s10, rfl, hq, by rw [ht]; exact hP, va_K.moved hW.alike hK, hN.warm hW⟩, hS.F ht⟩) hS.2.2 d_MO_sum_169
              · have hq := hq.1 c7
                refine lv_dload hx hb d_MO_sum_143 (lv_at hl 0 rfl) ?_
                refine va_calli (va_runS (As := [.double (FP.ddiv p2 p3)]) (rest := []) ⟨hx, hb, hml, hown, hts⟩ (c_MO_isGood (D := D) (cs := cs) hi hq) (va_cwS 1 hts (good_S wC_838 wC_839 wC_50 wC_840) rfl rfl rfl (by decide +kernel) ⟨(show 0 + 1 ≤ 1 by omega), (show 8 + (2 + 11) + 0 ≤ 25 by omega)⟩) ⟨mP_blind, fun U hU hW => ⟨rfl, by rw [hU]; exact hP, va_K.moved hW.alike hK, hN.warm hW⟩⟩ rfl rfl hl.1 rfl (lv_room (Nat.le_of_ble_eq_true rfl)) d_MO_sum_145 ⟨Nat.le_of_ble_eq_true rfl, Nat.le_of_ble_eq_true rfl⟩) hS (fun q _ h => h) (fun q h => h) (fun r11 s12 t H locs ht0 hvm hq hB hz1 hk1 hS => ?_)
                obtain ⟨hP, -, -⟩ := hB
                rw [ht0] at hP
                refine lv_if_ne (tgt := 156) hx hb d_MO_sum_148 (by decide) (fun c13 => ?_) (fun c13 => ?_)
                · have hq := hq.2 c13
                  refine lv_aload_n hx hb d_MO_sum_156 rfl (lv_at hl 1 rfl) ?_
                  refine cw_get (C := R_MO) (T := F_MO) (N := 39) (v := .int (gI s12 10)) hx hb hts (in_MO _) hown hK hP 0 (by decide) rfl rfl 34 (by decide) (ht _ wC_716) rfl d_MO_sum_157 ?_
                  refine lv_if_ne (tgt := 169) hx hb d_MO_sum_160 (by decide) (fun c14 => ?_) (fun c14 => ?_)
                  · have hq := hq.2 c14
                    exact W.vret hx hb hr (fun t ht hW => ⟨⟨s12, rfl, hq, by rw [ht]; exact hP, va_K.moved hW.alike hK, hN.warm hW⟩, hS.F ht⟩) hS.2.2 d_MO_sum_169
                  · have hq := hq.1 c14
                    refine lv_aload_n hx hb d_MO_sum_163 rfl (lv_at hl 1 rfl) ?_
                    refine lv_dload hx hb d_MO_sum_164 (lv_at hl 0 rfl) ?_
                    refine va_callv (va_runV (As := [.double (FP.ddiv p2 p3)]) (rest := []) ⟨hx, hb, hml, hown, hts⟩ (c_MO_end (D := D) (cs := cs) hi hq) (cwV 1 hts (good_V wC_864 wC_866 wC_29 wC_50 wC_867) rfl rfl rfl (by decide +kernel) ⟨(show 0 + 1 ≤ 1 by omega), (show 8 + (3 + 11) + 0 ≤ 25 by omega)⟩) ⟨mP_blind, va_recv hK hP (ci := 5) (q0 := 0) rfl (wd_at (by decide) rfl), fun U hU hW => ⟨rfl, by rw [hU]; exact hP, va_K.moved hW.alike hK, hN.warm hW⟩⟩ rfl rfl hl.1 rfl (lv_room (Nat.le_of_ble_eq_true rfl)) d_MO_sum_166 ⟨Nat.le_of_ble_eq_true rfl, Nat.le_of_ble_eq_true rfl⟩) hS (fun q _ h => h) (fun q h => h) (fun s16 t H locs ht0 hvm hq hB hz1 hk1 hS => ?_)
                    obtain ⟨hP, -, -⟩ := hB
                    rw [ht0] at hP
                    exact W.vret hx hb hr (fun t ht hW => ⟨⟨s16, rfl, hq, by rw [ht]; exact hP, va_K.moved hW.alike hK, hN.warm hW⟩, hS.F ht⟩) hS.2.2 d_MO_sum_169
                · have hq := hq.1 c13
                  refine lv_aload_n hx hb d_MO_sum_151 rfl (lv_at hl 1 rfl) ?_
                  refine lv_iconst (v := 2) hx hb d_MO_sum_152 (by decide) ?_
                  refine va_callv (va_runV (As := [.int 2]) (rest := []) ⟨hx, hb, hml, hown, hts⟩ (c_MO_wrong (D := D) (cs := cs) hi hq) (cwV 1 hts (good_V wC_855 wC_857 wC_27 wC_50 wC_858) rfl rfl rfl (by decide +kernel) ⟨(show 0 + 1 ≤ 1 by omega), (show 8 + (2 + 11) + 0 ≤ 25 by omega)⟩) ⟨mP_blind, va_recv hK hP (ci := 5) (q0 := 0) rfl (wd_at (by decide) rfl), fun U hU hW => ⟨rfl, by rw [hU]; exact hP, va_K.moved hW.alike hK, hN.warm hW⟩⟩ rfl rfl hl.1 rfl (lv_room (Nat.le_of_ble_eq_true rfl)) d_MO_sum_153 ⟨Nat.le_of_ble_eq_true rfl, Nat.le_of_ble_eq_true rfl⟩) hS (fun q _ h => h) (fun q h => h) (fun s18 t H locs ht0 hvm hq hB hz1 hk1 hS => ?_)
                  obtain ⟨hP, -, -⟩ := hB
                  rw [ht0] at hP
                  refine lv_aload_n hx hb d_MO_sum_156 rfl (lv_at hl 1 rfl) ?_
                  refine cw_get (C := R_MO) (T := F_MO) (N := 39) (v := .int (gI s18 10)) hx hb hts (in_MO _) hown hK hP 0 (by decide) rfl rfl 34 (by decide) (ht _ wC_716) rfl d_MO_sum_157 ?_
                  refine lv_if_ne (tgt := 169) hx hb d_MO_sum_160 (by decide) (fun c19 => ?_) (fun c19 => ?_)
                  · have hq := hq.2 c19
                    exact W.vret hx hb hr (fun t ht hW => ⟨⟨s18, rfl, hq, by rw [ht]; exact hP, va_K.moved hW.alike hK, hN.warm hW⟩, hS.F ht⟩) hS.2.2 d_MO_sum_169
                  · have hq := hq.1 c19
                    refine lv_aload_n hx hb d_MO_sum_163 rfl (lv_at hl 1 rfl) ?_
                    refine lv_dload hx hb d_MO_sum_164 (lv_at hl 0 rfl) ?_
                    refine va_callv (va_runV (As := [.double (FP.ddiv p2 p3)]) (rest := []) ⟨hx, hb, hml, hown, hts⟩ (c_MO_end (D := D) (cs := cs) hi hq) (cwV 1 hts (good_V wC_864 wC_866 wC_29 wC_50 wC_867) rfl rfl rfl (by decide +kernel) ⟨(show 0 + 1 ≤ 1 by omega), (show 8 + (3 + 11) + 0 ≤ 25 by omega)⟩) ⟨mP_blind, va_recv hK hP (ci := 5) (q0 := 0) rfl (wd_at (by decide) rfl), fun U hU hW => ⟨rfl, by rw [hU]; exact hP, va_K.moved hW.alike hK, hN.warm hW⟩⟩ rfl rfl hl.1 rfl (lv_room (Nat.le_of_ble_eq_true rfl)) d_MO_sum_166 ⟨Nat.le_of_ble_eq_true rfl, Nat.le_of_ble_eq_true rfl⟩) hS (fun q _ h => h) (fun q h => h) (fun s21 t H locs ht0 hvm hq hB hz1 hk1 hS => ?_)
                    obtain ⟨hP, -, -⟩ := hB
                    rw [ht0] at hP
                    exact W.vret hx hb hr (fun t ht hW => ⟨⟨s21, rfl, hq, by rw [ht]; exact hP, va_K.moved hW.alike hK, hN.warm hW⟩, hS.F ht⟩) hS.2.2 d_MO_sum_169
            · have hq := hq.1 c6
              refine lv_dload_n hx hb d_MO_sum_123 rfl (lv_at hl 3 rfl) ?_
              refine lv_dload hx hb d_MO_sum_124 (lv_at hl 4 rfl) ?_
              refine lv_dmul hx hb d_MO_sum_126 hq.1 ?_
              have hq := hq.2
              refine lv_goto (tgt := 134) hx hb d_MO_sum_127 (by decide) ?_
              refine lv_dstore (lv' := [(6, .double (FP.dmul p2 p3)), (0, .ref (am 0)), (1, .int p1), (2, .double p2), (4, .double p3)]) hx hb d_MO_sum_134 hl (by decide) rfl (fun ls hl => ?_)
              refine lv_aload_n hx hb d_MO_sum_136 rfl (lv_at hl 1 rfl) ?_
              refine cw_get (C := R_MO) (T := F_MO) (N := 39) (v := .int (gI σ 10)) hx hb hts (in_MO _) hown hK hP 0 (by decide) rfl rfl 34 (by decide) (ht _ wC_716) rfl d_MO_sum_137 ?_
              refine lv_if_ne (tgt := 156) hx hb d_MO_sum_140 (by decide) (fun c22 => ?_) (fun c22 => ?_)
              · have hq := hq.2 c22
                refine lv_aload_n hx hb d_MO_sum_156 rfl (lv_at hl 1 rfl) ?_
                refine cw_get (C := R_MO) (T := F_MO) (N := 39) (v := .int (gI σ 10)) hx hb hts (in_MO _) hown hK hP 0 (by decide) rfl rfl 34 (by decide) (ht _ wC_716) rfl d_MO_sum_157 ?_
                refine lv_if_ne (tgt := 169) hx hb d_MO_sum_160 (by decide) (fun c23 => ?_) (fun c23 => ?_)
                · have hq := hq.2 c23
                  exact W.vret hx hb hr (fun t ht hW => ⟨⟨σ, rfl, hq, by rw [ht]; exact hP, va_K.moved hW.alike hK, hN.warm hW⟩, hS.F ht⟩) hS.2.2 d_MO_sum_169
                · have hq := hq.1 c23
                  refine lv_aload_n hx hb d_MO_sum_163 rfl (lv_at hl 1 rfl) ?_
                  refine lv_dload hx hb d_MO_sum_164 (lv_at hl 0 rfl) ?_
                  refine va_callv (va_runV (As := [.double (FP.dmul p2 p3)]) (rest := []) ⟨hx, hb, hml, hown, hts⟩ (c_MO_end (D := D) (cs := cs) hi hq) (cwV 1 hts (good_V wC_864 wC_866 wC_29 wC_50 wC_867) rfl rfl rfl (by decide +kernel) ⟨(show 0 + 1 ≤ 1 by omega), (show 8 + (3 + 11) + 0 ≤ 25 by omega)⟩) ⟨mP_blind, va_recv hK hP (ci := 5) (q0 := 0) rfl (wd_at (by decide) rfl), fun U hU hW => ⟨rfl, by rw [hU]; exact hP, va_K.moved hW.alike hK, hN.warm hW⟩⟩ rfl rfl hl.1 rfl (lv_room (Nat.le_of_ble_eq_true rfl)) d_MO_sum_166 ⟨Nat.le_of_ble_eq_true rfl, Nat.le_of_ble_eq_true rfl⟩) hS (fun q _ h => h) (fun q h => h) (fun s25 t H locs ht0 hvm hq hB hz1 hk1 hS => ?_)
                  obtain ⟨hP, -, -⟩ := hB
                  rw [ht0] at hP
                  exact W.vret hx hb hr (fun t ht hW => ⟨⟨s25, rfl, hq, by rw [ht]; exact hP, va_K.moved hW.alike hK, hN.warm hW⟩, hS.F ht⟩) hS.2.2 d_MO_sum_169
              · have hq := hq.1 c22
                refine lv_dload hx hb d_MO_sum_143 (lv_at hl 0 rfl) ?_
                refine va_calli (va_runS (As := [.double (FP.dmul p2 p3)]) (rest := []) ⟨hx, hb, hml, hown, hts⟩ (c_MO_isGood (D := D) (cs := cs) hi hq) (va_cwS 1 hts (good_S wC_838 wC_839 wC_50 wC_840) rfl rfl rfl (by decide +kernel) ⟨(show 0 + 1 ≤ 1 by omega), (show 8 + (2 + 11) + 0 ≤ 25 by omega)⟩) ⟨mP_blind, fun U hU hW => ⟨rfl, by rw [hU]; exact hP, va_K.moved hW.alike hK, hN.warm hW⟩⟩ rfl rfl hl.1 rfl (lv_room (Nat.le_of_ble_eq_true rfl)) d_MO_sum_145 ⟨Nat.le_of_ble_eq_true rfl, Nat.le_of_ble_eq_true rfl⟩) hS (fun q _ h => h) (fun q h => h) (fun r26 s27 t H locs ht0 hvm hq hB hz1 hk1 hS => ?_)
                obtain ⟨hP, -, -⟩ := hB
                rw [ht0] at hP
                refine lv_if_ne (tgt := 156) hx hb d_MO_sum_148 (by decide) (fun c28 => ?_) (fun c28 => ?_)
                · have hq := hq.2 c28
                  refine lv_aload_n hx hb d_MO_sum_156 rfl (lv_at hl 1 rfl) ?_
                  refine cw_get (C := R_MO) (T := F_MO) (N := 39) (v := .int (gI s27 10)) hx hb hts (in_MO _) hown hK hP 0 (by decide) rfl rfl 34 (by decide) (ht _ wC_716) rfl d_MO_sum_157 ?_
                  refine lv_if_ne (tgt := 169) hx hb d_MO_sum_160 (by decide) (fun c29 => ?_) (fun c29 => ?_)
                  · have hq := hq.2 c29
                    exact W.vret hx hb hr (fun t ht hW => ⟨⟨s27, rfl, hq, by rw [ht]; exact hP, va_K.moved hW.alike hK, hN.warm hW⟩, hS.F ht⟩) hS.2.2 d_MO_sum_169
                  · have hq := hq.1 c29
                    refine lv_aload_n hx hb d_MO_sum_163 rfl (lv_at hl 1 rfl) ?_
                    refine lv_dload hx hb d_MO_sum_164 (lv_at hl 0 rfl) ?_
                    refine va_callv (va_runV (As := [.double (FP.dmul p2 p3)]) (rest := []) ⟨hx, hb, hml, hown, hts⟩ (c_MO_end (D := D) (cs := cs) hi hq) (cwV 1 hts (good_V wC_864 wC_866 wC_29 wC_50 wC_867) rfl rfl rfl (by decide +kernel) ⟨(show 0 + 1 ≤ 1 by omega), (show 8 + (3 + 11) + 0 ≤ 25 by omega)⟩) ⟨mP_blind, va_recv hK hP (ci := 5) (q0 := 0) rfl (wd_at (by decide) rfl), fun U hU hW => ⟨rfl, by rw [hU]; exact hP, va_K.moved hW.alike hK, hN.warm hW⟩⟩ rfl rfl hl.1 rfl (lv_room (Nat.le_of_ble_eq_true rfl)) d_MO_sum_166 ⟨Nat.le_of_ble_eq_true rfl, Nat.le_of_ble_eq_true rfl⟩) hS (fun q _ h => h) (fun q h => h) (fun s31 t H locs ht0 hvm hq hB hz1 hk1 hS => ?_)
                    obtain ⟨hP, -, -⟩ := hB
                    rw [ht0] at hP
                    exact W.vret hx hb hr (fun t ht hW => ⟨⟨s31, rfl, hq, by rw [ht]; exact hP, va_K.moved hW.alike hK, hN.warm hW⟩, hS.F ht⟩) hS.2.2 d_MO_sum_169
                · have hq := hq.1 c28
                  refine lv_aload_n hx hb d_MO_sum_151 rfl (lv_at hl 1 rfl) ?_
                  refine lv_iconst (v := 2) hx hb d_MO_sum_152 (by decide) ?_
                  refine va_callv (va_runV (As := [.int 2]) (rest := []) ⟨hx, hb, hml, hown, hts⟩ (c_MO_wrong (D := D) (cs := cs) hi hq) (cwV 1 hts (good_V wC_855 wC_857 wC_27 wC_50 wC_858) rfl rfl rfl (by decide +kernel) ⟨(show 0 + 1 ≤ 1 by omega), (show 8 + (2 + 11) + 0 ≤ 25 by omega)⟩) ⟨mP_blind, va_recv hK hP (ci := 5) (q0 := 0) rfl (wd_at (by decide) rfl), fun U hU hW => ⟨rfl, by rw [hU]; exact hP, va_K.moved hW.alike hK, hN.warm hW⟩⟩ rfl rfl hl.1 rfl (lv_room (Nat.le_of_ble_eq_true rfl)) d_MO_sum_153 ⟨Nat.le_of_ble_eq_true rfl, Nat.le_of_ble_eq_true rfl⟩) hS (fun q _ h => h) (fun q h => h) (fun s33 t H locs ht0 hvm hq hB hz1 hk1 hS => ?_)
                  obtain ⟨hP, -, -⟩ := hB
                  rw [ht0] at hP
                  refine lv_aload_n hx hb d_MO_sum_156 rfl (lv_at hl 1 rfl) ?_
                  refine cw_get (C := R_MO) (T := F_MO) (N := 39) (v := .int (gI s33 10)) hx hb hts (in_MO _) hown hK hP 0 (by decide) rfl rfl 34 (by decide) (ht _ wC_716) rfl d_MO_sum_157 ?_
                  refine lv_if_ne (tgt := 169) hx hb d_MO_sum_160 (by decide) (fun c34 => ?_) (fun c34 => ?_)
                  · have hq := hq.2 c34
                    exact W.vret hx hb hr (fun t ht hW => ⟨⟨s33, rfl, hq, by rw [ht]; exact hP, va_K.moved hW.alike hK, hN.warm hW⟩, hS.F ht⟩) hS.2.2 d_MO_sum_169
                  · have hq := hq.1 c34
                    refine lv_aload_n hx hb d_MO_sum_163 rfl (lv_at hl 1 rfl) ?_
                    refine lv_dload hx hb d_MO_sum_164 (lv_at hl 0 rfl) ?_
                    refine va_callv (va_runV (As := [.double (FP.dmul p2 p3)]) (rest := []) ⟨hx, hb, hml, hown, hts⟩ (c_MO_end (D := D) (cs := cs) hi hq) (cwV 1 hts (good_V wC_864 wC_866 wC_29 wC_50 wC_867) rfl rfl rfl (by decide +kernel) ⟨(show 0 + 1 ≤ 1 by omega), (show 8 + (3 + 11) + 0 ≤ 25 by omega)⟩) ⟨mP_blind, va_recv hK hP (ci := 5) (q0 := 0) rfl (wd_at (by decide) rfl), fun U hU hW => ⟨rfl, by rw [hU]; exact hP, va_K.moved hW.alike hK, hN.warm hW⟩⟩ rfl rfl hl.1 rfl (lv_room (Nat.le_of_ble_eq_true rfl)) d_MO_sum_166 ⟨Nat.le_of_ble_eq_true rfl, Nat.le_of_ble_eq_true rfl⟩) hS (fun q _ h => h) (fun q h => h) (fun s36 t H locs ht0 hvm hq hB hz1 hk1 hS => ?_)
                    obtain ⟨hP, -, -⟩ := hB
                    rw [ht0] at hP
                    exact W.vret hx hb hr (fun t ht hW => ⟨⟨s36, rfl, hq, by rw [ht]; exact hP, va_K.moved hW.alike hK, hN.warm hW⟩, hS.F ht⟩) hS.2.2 d_MO_sum_169
          · have hq := hq.1 c5
            refine lv_dload_n hx hb d_MO_sum_111 rfl (lv_at hl 3 rfl) ?_
            refine lv_dload hx hb d_MO_sum_112 (lv_at hl 4 rfl) ?_
            refine lv_dsub hx hb d_MO_sum_114 hq.1 ?_
            have hq := hq.2
            refine lv_goto (tgt := 134) hx hb d_MO_sum_115 (by decide) ?_
            refine lv_dstore (lv' := [(6, .double (FP.dsub p2 p3)), (0, .ref (am 0)), (1, .int p1), (2, .double p2), (4, .double p3)]) hx hb d_MO_sum_134 hl (by decide) rfl (fun ls hl => ?_)
            refine lv_aload_n hx hb d_MO_sum_136 rfl (lv_at hl 1 rfl) ?_
            refine cw_get (C := R_MO) (T := F_MO) (N := 39) (v := .int (gI σ 10)) hx hb hts (in_MO _) hown hK hP 0 (by decide) rfl rfl 34 (by decide) (ht _ wC_716) rfl d_MO_sum_137 ?_
            refine lv_if_ne (tgt := 156) hx hb d_MO_sum_140 (by decide) (fun c37 => ?_) (fun c37 => ?_)
            · have hq := hq.2 c37
              refine lv_aload_n hx hb d_MO_sum_156 rfl (lv_at hl 1 rfl) ?_
              refine cw_get (C := R_MO) (T := F_MO) (N := 39) (v := .int (gI σ 10)) hx hb hts (in_MO _) hown hK hP 0 (by decide) rfl rfl 34 (by decide) (ht _ wC_716) rfl d_MO_sum_157 ?_
              refine lv_if_ne (tgt := 169) hx hb d_MO_sum_160 (by decide) (fun c38 => ?_) (fun c38 => ?_)
              · have hq := hq.2 c38
                exact W.vret hx hb hr (fun t ht hW => ⟨⟨σ, rfl, hq, by rw [ht]; exact hP, va_K.moved hW.alike hK, hN.warm hW⟩, hS.F ht⟩) hS.2.2 d_MO_sum_169
              · have hq := hq.1 c38
                refine lv_aload_n hx hb d_MO_sum_163 rfl (lv_at hl 1 rfl) ?_
                refine lv_dload hx hb d_MO_sum_164 (lv_at hl 0 rfl) ?_
                refine va_callv (va_runV (As := [.double (FP.dsub p2 p3)]) (rest := []) ⟨hx, hb, hml, hown, hts⟩ (c_MO_end (D := D) (cs := cs) hi hq) (cwV 1 hts (good_V wC_864 wC_866 wC_29 wC_50 wC_867) rfl rfl rfl (by decide +kernel) ⟨(show 0 + 1 ≤ 1 by omega), (show 8 + (3 + 11) + 0 ≤ 25 by omega)⟩) ⟨mP_blind, va_recv hK hP (ci := 5) (q0 := 0) rfl (wd_at (by decide) rfl), fun U hU hW => ⟨rfl, by rw [hU]; exact hP, va_K.moved hW.alike hK, hN.warm hW⟩⟩ rfl rfl hl.1 rfl (lv_room (Nat.le_of_ble_eq_true rfl)) d_MO_sum_166 ⟨Nat.le_of_ble_eq_true rfl, Nat.le_of_ble_eq_true rfl⟩) hS (fun q _ h => h) (fun q h => h) (fun s40 t H locs ht0 hvm hq hB hz1 hk1 hS => ?_)
                obtain ⟨hP, -, -⟩ := hB
                rw [ht0] at hP
                exact W.vret hx hb hr (fun t ht hW => ⟨⟨s40, rfl, hq, by rw [ht]; exact hP, va_K.moved hW.alike hK, hN.warm hW⟩, hS.F ht⟩) hS.2.2 d_MO_sum_169
            · have hq := hq.1 c37
              refine lv_dload hx hb d_MO_sum_143 (lv_at hl 0 rfl) ?_
              refine va_calli (va_runS (As := [.double (FP.dsub p2 p3)]) (rest := []) ⟨hx, hb, hml, hown, hts⟩ (c_MO_isGood (D := D) (cs := cs) hi hq) (va_cwS 1 hts (good_S wC_838 wC_839 wC_50 wC_840) rfl rfl rfl (by decide +kernel) ⟨(show 0 + 1 ≤ 1 by omega), (show 8 + (2 + 11) + 0 ≤ 25 by omega)⟩) ⟨mP_blind, fun U hU hW => ⟨rfl, by rw [hU]; exact hP, va_K.moved hW.alike hK, hN.warm hW⟩⟩ rfl rfl hl.1 rfl (lv_room (Nat.le_of_ble_eq_true rfl)) d_MO_sum_145 ⟨Nat.le_of_ble_eq_true rfl, Nat.le_of_ble_eq_true rfl⟩) hS (fun q _ h => h) (fun q h => h) (fun r41 s42 t H locs ht0 hvm hq hB hz1 hk1 hS => ?_)
              obtain ⟨hP, -, -⟩ := hB
              rw [ht0] at hP
              refine lv_if_ne (tgt := 156) hx hb d_MO_sum_148 (by decide) (fun c43 => ?_) (fun c43 => ?_)
              · have hq := hq.2 c43
                refine lv_aload_n hx hb d_MO_sum_156 rfl (lv_at hl 1 rfl) ?_
                refine cw_get (C := R_MO) (T := F_MO) (N := 39) (v := .int (gI s42 10)) hx hb hts (in_MO _) hown hK hP 0 (by decide) rfl rfl 34 (by decide) (ht _ wC_716) rfl d_MO_sum_157 ?_
                refine lv_if_ne (tgt := 169) hx hb d_MO_sum_160 (by decide) (fun c44 => ?_) (fun c44 => ?_)
                · have hq := hq.2 c44
                  exact W.vret hx hb hr (fun t ht hW => ⟨⟨s42, rfl, hq, by rw [ht]; exact hP, va_K.moved hW.alike hK, hN.warm hW⟩, hS.F ht⟩) hS.2.2 d_MO_sum_169
                · have hq := hq.1 c44
                  refine lv_aload_n hx hb d_MO_sum_163 rfl (lv_at hl 1 rfl) ?_
                  refine lv_dload hx hb d_MO_sum_164 (lv_at hl 0 rfl) ?_
                  refine va_callv (va_runV (As := [.double (FP.dsub p2 p3)]) (rest := []) ⟨hx, hb, hml, hown, hts⟩ (c_MO_end (D := D) (cs := cs) hi hq) (cwV 1 hts (good_V wC_864 wC_866 wC_29 wC_50 wC_867) rfl rfl rfl (by decide +kernel) ⟨(show 0 + 1 ≤ 1 by omega), (show 8 + (3 + 11) + 0 ≤ 25 by omega)⟩) ⟨mP_blind, va_recv hK hP (ci := 5) (q0 := 0) rfl (wd_at (by decide) rfl), fun U hU hW => ⟨rfl, by rw [hU]; exact hP, va_K.moved hW.alike hK, hN.warm hW⟩⟩ rfl rfl hl.1 rfl (lv_room (Nat.le_of_ble_eq_true rfl)) d_MO_sum_166 ⟨Nat.le_of_ble_eq_true rfl, Nat.le_of_ble_eq_true rfl⟩) hS (fun q _ h => h) (fun q h => h) (fun s46 t H locs ht0 hvm hq hB hz1 hk1 hS => ?_)
                  obtain ⟨hP, -, -⟩ := hB
                  rw [ht0] at hP
                  exact W.vret hx hb hr (fun t ht hW => ⟨⟨s46, rfl, hq, by rw [ht]; exact hP, va_K.moved hW.alike hK, hN.warm hW⟩, hS.F ht⟩) hS.2.2 d_MO_sum_169
              · have hq := hq.1 c43
                refine lv_aload_n hx hb d_MO_sum_151 rfl (lv_at hl 1 rfl) ?_
                refine lv_iconst (v := 2) hx hb d_MO_sum_152 (by decide) ?_
                refine va_callv (va_runV (As := [.int 2]) (rest := []) ⟨hx, hb, hml, hown, hts⟩ (c_MO_wrong (D := D) (cs := cs) hi hq) (cwV 1 hts (good_V wC_855 wC_857 wC_27 wC_50 wC_858) rfl rfl rfl (by decide +kernel) ⟨(show 0 + 1 ≤ 1 by omega), (show 8 + (2 + 11) + 0 ≤ 25 by omega)⟩) ⟨mP_blind, va_recv hK hP (ci := 5) (q0 := 0) rfl (wd_at (by decide) rfl), fun U hU hW => ⟨rfl, by rw [hU]; exact hP, va_K.moved hW.alike hK, hN.warm hW⟩⟩ rfl rfl hl.1 rfl (lv_room (Nat.le_of_ble_eq_true rfl)) d_MO_sum_153 ⟨Nat.le_of_ble_eq_true rfl, Nat.le_of_ble_eq_true rfl⟩) hS (fun q _ h => h) (fun q h => h) (fun s48 t H locs ht0 hvm hq hB hz1 hk1 hS => ?_)
                obtain ⟨hP, -, -⟩ := hB
                rw [ht0] at hP
                refine lv_aload_n hx hb d_MO_sum_156 rfl (lv_at hl 1 rfl) ?_
                refine cw_get (C := R_MO) (T := F_MO) (N := 39) (v := .int (gI s48 10)) hx hb hts (in_MO _) hown hK hP 0 (by decide) rfl rfl 34 (by decide) (ht _ wC_716) rfl d_MO_sum_157 ?_
                refine lv_if_ne (tgt := 169) hx hb d_MO_sum_160 (by decide) (fun c49 => ?_) (fun c49 => ?_)
                · have hq := hq.2 c49
                  exact W.vret hx hb hr (fun t ht hW => ⟨⟨s48, rfl, hq, by rw [ht]; exact hP, va_K.moved hW.alike hK, hN.warm hW⟩, hS.F ht⟩) hS.2.2 d_MO_sum_169
                · have hq := hq.1 c49
                  refine lv_aload_n hx hb d_MO_sum_163 rfl (lv_at hl 1 rfl) ?_
                  refine lv_dload hx hb d_MO_sum_164 (lv_at hl 0 rfl) ?_
                  refine va_callv (va_runV (As := [.double (FP.dsub p2 p3)]) (rest := []) ⟨hx, hb, hml, hown, hts⟩ (c_MO_end (D := D) (cs := cs) hi hq) (cwV 1 hts (good_V wC_864 wC_866 wC_29 wC_50 wC_867) rfl rfl rfl (by decide +kernel) ⟨(show 0 + 1 ≤ 1 by omega), (show 8 + (3 + 11) + 0 ≤ 25 by omega)⟩) ⟨mP_blind, va_recv hK hP (ci := 5) (q0 := 0) rfl (wd_at (by decide) rfl), fun U hU hW => ⟨rfl, by rw [hU]; exact hP, va_K.moved hW.alike hK, hN.warm hW⟩⟩ rfl rfl hl.1 rfl (lv_room (Nat.le_of_ble_eq_true rfl)) d_MO_sum_166 ⟨Nat.le_of_ble_eq_true rfl, Nat.le_of_ble_eq_true rfl⟩) hS (fun q _ h => h) (fun q h => h) (fun s51 t H locs ht0 hvm hq hB hz1 hk1 hS => ?_)
                  obtain ⟨hP, -, -⟩ := hB
                  rw [ht0] at hP
                  exact W.vret hx hb hr (fun t ht hW => ⟨⟨s51, rfl, hq, by rw [ht]; exact hP, va_K.moved hW.alike hK, hN.warm hW⟩, hS.F ht⟩) hS.2.2 d_MO_sum_169
        · have hq := hq.1 c4
          refine lv_dload_n hx hb d_MO_sum_99 rfl (lv_at hl 3 rfl) ?_
          refine lv_dload hx hb d_MO_sum_100 (lv_at hl 4 rfl) ?_
          refine lv_dadd hx hb d_MO_sum_102 hq.1 ?_
          have hq := hq.2
          refine lv_goto (tgt := 134) hx hb d_MO_sum_103 (by decide) ?_
          refine lv_dstore (lv' := [(6, .double (FP.dadd p2 p3)), (0, .ref (am 0)), (1, .int p1), (2, .double p2), (4, .double p3)]) hx hb d_MO_sum_134 hl (by decide) rfl (fun ls hl => ?_)
          refine lv_aload_n hx hb d_MO_sum_136 rfl (lv_at hl 1 rfl) ?_
          refine cw_get (C := R_MO) (T := F_MO) (N := 39) (v := .int (gI σ 10)) hx hb hts (in_MO _) hown hK hP 0 (by decide) rfl rfl 34 (by decide) (ht _ wC_716) rfl d_MO_sum_137 ?_
          refine lv_if_ne (tgt := 156) hx hb d_MO_sum_140 (by decide) (fun c52 => ?_) (fun c52 => ?_)
          · have hq := hq.2 c52
            refine lv_aload_n hx hb d_MO_sum_156 rfl (lv_at hl 1 rfl) ?_
            refine cw_get (C := R_MO) (T := F_MO) (N := 39) (v := .int (gI σ 10)) hx hb hts (in_MO _) hown hK hP 0 (by decide) rfl rfl 34 (by decide) (ht _ wC_716) rfl d_MO_sum_157 ?_
            refine lv_if_ne (tgt := 169) hx hb d_MO_sum_160 (by decide) (fun c53 => ?_) (fun c53 => ?_)
            · have hq := hq.2 c53
              exact W.vret hx hb hr (fun t ht hW => ⟨⟨σ, rfl, hq, by rw [ht]; exact hP, va_K.moved hW.alike hK, hN.warm hW⟩, hS.F ht⟩) hS.2.2 d_MO_sum_169
            · have hq := hq.1 c53
              refine lv_aload_n hx hb d_MO_sum_163 rfl (lv_at hl 1 rfl) ?_
              refine lv_dload hx hb d_MO_sum_164 (lv_at hl 0 rfl) ?_
              refine va_callv (va_runV (As := [.double (FP.dadd p2 p3)]) (rest := []) ⟨hx, hb, hml, hown, hts⟩ (c_MO_end (D := D) (cs := cs) hi hq) (cwV 1 hts (good_V wC_864 wC_866 wC_29 wC_50 wC_867) rfl rfl rfl (by decide +kernel) ⟨(show 0 + 1 ≤ 1 by omega), (show 8 + (3 + 11) + 0 ≤ 25 by omega)⟩) ⟨mP_blind, va_recv hK hP (ci := 5) (q0 := 0) rfl (wd_at (by decide) rfl), fun U hU hW => ⟨rfl, by rw [hU]; exact hP, va_K.moved hW.alike hK, hN.warm hW⟩⟩ rfl rfl hl.1 rfl (lv_room (Nat.le_of_ble_eq_true rfl)) d_MO_sum_166 ⟨Nat.le_of_ble_eq_true rfl, Nat.le_of_ble_eq_true rfl⟩) hS (fun q _ h => h) (fun q h => h) (fun s55 t H locs ht0 hvm hq hB hz1 hk1 hS => ?_)
              obtain ⟨hP, -, -⟩ := hB
              rw [ht0] at hP
              exact W.vret hx hb hr (fun t ht hW => ⟨⟨s55, rfl, hq, by rw [ht]; exact hP, va_K.moved hW.alike hK, hN.warm hW⟩, hS.F ht⟩) hS.2.2 d_MO_sum_169
          · have hq := hq.1 c52
            refine lv_dload hx hb d_MO_sum_143 (lv_at hl 0 rfl) ?_
            refine va_calli (va_runS (As := [.double (FP.dadd p2 p3)]) (rest := []) ⟨hx, hb, hml, hown, hts⟩ (c_MO_isGood (D := D) (cs := cs) hi hq) (va_cwS 1 hts (good_S wC_838 wC_839 wC_50 wC_840) rfl rfl rfl (by decide +kernel) ⟨(show 0 + 1 ≤ 1 by omega), (show 8 + (2 + 11) + 0 ≤ 25 by omega)⟩) ⟨mP_blind, fun U hU hW => ⟨rfl, by rw [hU]; exact hP, va_K.moved hW.alike hK, hN.warm hW⟩⟩ rfl rfl hl.1 rfl (lv_room (Nat.le_of_ble_eq_true rfl)) d_MO_sum_145 ⟨Nat.le_of_ble_eq_true rfl, Nat.le_of_ble_eq_true rfl⟩) hS (fun q _ h => h) (fun q h => h) (fun r56 s57 t H locs ht0 hvm hq hB hz1 hk1 hS => ?_)
            obtain ⟨hP, -, -⟩ := hB
            rw [ht0] at hP
            refine lv_if_ne (tgt := 156) hx hb d_MO_sum_148 (by decide) (fun c58 => ?_) (fun c58 => ?_)
            · have hq := hq.2 c58
              refine lv_aload_n hx hb d_MO_sum_156 rfl (lv_at hl 1 rfl) ?_
              refine cw_get (C := R_MO) (T := F_MO) (N := 39) (v := .int (gI s57 10)) hx hb hts (in_MO _) hown hK hP 0 (by decide) rfl rfl 34 (by decide) (ht _ wC_716) rfl d_MO_sum_157 ?_
              refine lv_if_ne (tgt := 169) hx hb d_MO_sum_160 (by decide) (fun c59 => ?_) (fun c59 => ?_)
              · have hq := hq.2 c59
                exact W.vret hx hb hr (fun t ht hW => ⟨⟨s57, rfl, hq, by rw [ht]; exact hP, va_K.moved hW.alike hK, hN.warm hW⟩, hS.F ht⟩) hS.2.2 d_MO_sum_169
              · have hq := hq.1 c59
                refine lv_aload_n hx hb d_MO_sum_163 rfl (lv_at hl 1 rfl) ?_
                refine lv_dload hx hb d_MO_sum_164 (lv_at hl 0 rfl) ?_
                refine va_callv (va_runV (As := [.double (FP.dadd p2 p3)]) (rest := []) ⟨hx, hb, hml, hown, hts⟩ (c_MO_end (D := D) (cs := cs) hi hq) (cwV 1 hts (good_V wC_864 wC_866 wC_29 wC_50 wC_867) rfl rfl rfl (by decide +kernel) ⟨(show 0 + 1 ≤ 1 by omega), (show 8 + (3 + 11) + 0 ≤ 25 by omega)⟩) ⟨mP_blind, va_recv hK hP (ci := 5) (q0 := 0) rfl (wd_at (by decide) rfl), fun U hU hW => ⟨rfl, by rw [hU]; exact hP, va_K.moved hW.alike hK, hN.warm hW⟩⟩ rfl rfl hl.1 rfl (lv_room (Nat.le_of_ble_eq_true rfl)) d_MO_sum_166 ⟨Nat.le_of_ble_eq_true rfl, Nat.le_of_ble_eq_true rfl⟩) hS (fun q _ h => h) (fun q h => h) (fun s61 t H locs ht0 hvm hq hB hz1 hk1 hS => ?_)
                obtain ⟨hP, -, -⟩ := hB
                rw [ht0] at hP
                exact W.vret hx hb hr (fun t ht hW => ⟨⟨s61, rfl, hq, by rw [ht]; exact hP, va_K.moved hW.alike hK, hN.warm hW⟩, hS.F ht⟩) hS.2.2 d_MO_sum_169
            · have hq := hq.1 c58
              refine lv_aload_n hx hb d_MO_sum_151 rfl (lv_at hl 1 rfl) ?_
              refine lv_iconst (v := 2) hx hb d_MO_sum_152 (by decide) ?_
              refine va_callv (va_runV (As := [.int 2]) (rest := []) ⟨hx, hb, hml, hown, hts⟩ (c_MO_wrong (D := D) (cs := cs) hi hq) (cwV 1 hts (good_V wC_855 wC_857 wC_27 wC_50 wC_858) rfl rfl rfl (by decide +kernel) ⟨(show 0 + 1 ≤ 1 by omega), (show 8 + (2 + 11) + 0 ≤ 25 by omega)⟩) ⟨mP_blind, va_recv hK hP (ci := 5) (q0 := 0) rfl (wd_at (by decide) rfl), fun U hU hW => ⟨rfl, by rw [hU]; exact hP, va_K.moved hW.alike hK, hN.warm hW⟩⟩ rfl rfl hl.1 rfl (lv_room (Nat.le_of_ble_eq_true rfl)) d_MO_sum_153 ⟨Nat.le_of_ble_eq_true rfl, Nat.le_of_ble_eq_true rfl⟩) hS (fun q _ h => h) (fun q h => h) (fun s63 t H locs ht0 hvm hq hB hz1 hk1 hS => ?_)
              obtain ⟨hP, -, -⟩ := hB
              rw [ht0] at hP
              refine lv_aload_n hx hb d_MO_sum_156 rfl (lv_at hl 1 rfl) ?_
              refine cw_get (C := R_MO) (T := F_MO) (N := 39) (v := .int (gI s63 10)) hx hb hts (in_MO _) hown hK hP 0 (by decide) rfl rfl 34 (by decide) (ht _ wC_716) rfl d_MO_sum_157 ?_
              refine lv_if_ne (tgt := 169) hx hb d_MO_sum_160 (by decide) (fun c64 => ?_) (fun c64 => ?_)
              · have hq := hq.2 c64
                exact W.vret hx hb hr (fun t ht hW => ⟨⟨s63, rfl, hq, by rw [ht]; exact hP, va_K.moved hW.alike hK, hN.warm hW⟩, hS.F ht⟩) hS.2.2 d_MO_sum_169
              · have hq := hq.1 c64
                refine lv_aload_n hx hb d_MO_sum_163 rfl (lv_at hl 1 rfl) ?_
                refine lv_dload hx hb d_MO_sum_164 (lv_at hl 0 rfl) ?_
                refine va_callv (va_runV (As := [.double (FP.dadd p2 p3)]) (rest := []) ⟨hx, hb, hml, hown, hts⟩ (c_MO_end (D := D) (cs := cs) hi hq) (cwV 1 hts (good_V wC_864 wC_866 wC_29 wC_50 wC_867) rfl rfl rfl (by decide +kernel) ⟨(show 0 + 1 ≤ 1 by omega), (show 8 + (3 + 11) + 0 ≤ 25 by omega)⟩) ⟨mP_blind, va_recv hK hP (ci := 5) (q0 := 0) rfl (wd_at (by decide) rfl), fun U hU hW => ⟨rfl, by rw [hU]; exact hP, va_K.moved hW.alike hK, hN.warm hW⟩⟩ rfl rfl hl.1 rfl (lv_room (Nat.le_of_ble_eq_true rfl)) d_MO_sum_166 ⟨Nat.le_of_ble_eq_true rfl, Nat.le_of_ble_eq_true rfl⟩) hS (fun q _ h => h) (fun q h => h) (fun s66 t H locs ht0 hvm hq hB hz1 hk1 hS => ?_)
                obtain ⟨hP, -, -⟩ := hB
                rw [ht0] at hP
                exact W.vret hx hb hr (fun t ht hW => ⟨⟨s66, rfl, hq, by rw [ht]; exact hP, va_K.moved hW.alike hK, hN.warm hW⟩, hS.F ht⟩) hS.2.2 d_MO_sum_169
      · have hq := hq.1 c3
        refine lv_dload hx hb d_MO_sum_79 (lv_at hl 4 rfl) ?_
        refine lv_dconst0 hx hb d_MO_sum_81 ?_
        refine lv_dcmp hx hb d_MO_sum_82 ?_
        refine lv_if_ne (tgt := 94) hx hb d_MO_sum_83 (by decide) (fun c67 => ?_) (fun c67 => ?_)
        · have hq := hq.2 c67
          refine lv_iload_n hx hb d_MO_sum_94 rfl (lv_at hl 2 rfl) ?_
          refine lv_iconst (v := 3) hx hb d_MO_sum_95 (by decide) ?_
          refine lv_icmp_ne (tgt := 106) hx hb d_MO_sum_96 (by decide) (fun c68 => ?_) (fun c68 => ?_)
          · have hq := hq.2 c68
            refine lv_iload_n hx hb d_MO_sum_106 rfl (lv_at hl 2 rfl) ?_
            refine lv_iconst (v := 4) hx hb d_MO_sum_107 (by decide) ?_
            refine lv_icmp_ne (tgt := 118) hx hb d_MO_sum_108 (by decide) (fun c69 => ?_) (fun c69 => ?_)
            · have hq := hq.2 c69
              refine lv_iload_n hx hb d_MO_sum_118 rfl (lv_at hl 2 rfl) ?_
              refine lv_iconst (v := 5) hx hb d_MO_sum_119 (by decide) ?_
              refine lv_icmp_ne (tgt := 130) hx hb d_MO_sum_120 (by decide) (fun c70 => ?_) (fun c70 => ?_)
              · have hq := hq.2 c70
                refine lv_dload_n hx hb d_MO_sum_130 rfl (lv_at hl 3 rfl) ?_
                refine lv_dload hx hb d_MO_sum_131 (lv_at hl 4 rfl) ?_
                refine lv_ddiv hx hb d_MO_sum_133 hq.1 ?_
                have hq := hq.2
                refine lv_dstore (lv' := [(6, .double (FP.ddiv p2 p3)), (0, .ref (am 0)), (1, .int p1), (2, .double p2), (4, .double p3)]) hx hb d_MO_sum_134 hl (by decide) rfl (fun ls hl => ?_)
                refine lv_aload_n hx hb d_MO_sum_136 rfl (lv_at hl 1 rfl) ?_
                refine cw_get (C := R_MO) (T := F_MO) (N := 39) (v := .int (gI σ 10)) hx hb hts (in_MO _) hown hK hP 0 (by decide) rfl rfl 34 (by decide) (ht _ wC_716) rfl d_MO_sum_137 ?_
                refine lv_if_ne (tgt := 156) hx hb d_MO_sum_140 (by decide) (fun c71 => ?_) (fun c71 => ?_)
                · have hq := hq.2 c71
                  refine lv_aload_n hx hb d_MO_sum_156 rfl (lv_at hl 1 rfl) ?_
                  refine cw_get (C := R_MO) (T := F_MO) (N := 39) (v := .int (gI σ 10)) hx hb hts (in_MO _) hown hK hP 0 (by decide) rfl rfl 34 (by decide) (ht _ wC_716) rfl d_MO_sum_157 ?_
                  refine lv_if_ne (tgt := 169) hx hb d_MO_sum_160 (by decide) (fun c72 => ?_) (fun c72 => ?_)
                  · have hq := hq.2 c72
                    exact W.vret hx hb hr (fun t ht hW => ⟨⟨σ, rfl, hq, by rw [ht]; exact hP, va_K.moved hW.alike hK, hN.warm hW⟩, hS.F ht⟩) hS.2.2 d_MO_sum_169
                  · have hq := hq.1 c72
                    refine lv_aload_n hx hb d_MO_sum_163 rfl (lv_at hl 1 rfl) ?_
                    refine lv_dload hx hb d_MO_sum_164 (lv_at hl 0 rfl) ?_
                    refine va_callv (va_runV (As := [.double (FP.ddiv p2 p3)]) (rest := []) ⟨hx, hb, hml, hown, hts⟩ (c_MO_end (D := D) (cs := cs) hi hq) (cwV 1 hts (good_V wC_864 wC_866 wC_29 wC_50 wC_867) rfl rfl rfl (by decide +kernel) ⟨(show 0 + 1 ≤ 1 by omega), (show 8 + (3 + 11) + 0 ≤ 25 by omega)⟩) ⟨mP_blind, va_recv hK hP (ci := 5) (q0 := 0) rfl (wd_at (by decide) rfl), fun U hU hW => ⟨rfl, by rw [hU]; exact hP, va_K.moved hW.alike hK, hN.warm hW⟩⟩ rfl rfl hl.1 rfl (lv_room (Nat.le_of_ble_eq_true rfl)) d_MO_sum_166 ⟨Nat.le_of_ble_eq_true rfl, Nat.le_of_ble_eq_true rfl⟩) hS (fun q _ h => h) (fun q h => h) (fun s74 t H locs ht0 hvm hq hB hz1 hk1 hS => ?_)
                    obtain ⟨hP, -, -⟩ := hB
                    rw [ht0] at hP
                    exact W.vret hx hb hr (fun t ht hW => ⟨⟨s74, rfl, hq, by rw [ht]; exact hP, va_K.moved hW.alike hK, hN.warm hW⟩, hS.F ht⟩) hS.2.2 d_MO_sum_169
                · have hq := hq.1 c71
                  refine lv_dload hx hb d_MO_sum_143 (lv_at hl 0 rfl) ?_
                  refine va_calli (va_runS (As := [.double (FP.ddiv p2 p3)]) (rest := []) ⟨hx, hb, hml, hown, hts⟩ (c_MO_isGood (D := D) (cs := cs) hi hq) (va_cwS 1 hts (good_S wC_838 wC_839 wC_50 wC_840) rfl rfl rfl (by decide +kernel) ⟨(show 0 + 1 ≤ 1 by omega), (show 8 + (2 + 11) + 0 ≤ 25 by omega)⟩) ⟨mP_blind, fun U hU hW => ⟨rfl, by rw [hU]; exact hP, va_K.moved hW.alike hK, hN.warm hW⟩⟩ rfl rfl hl.1 rfl (lv_room (Nat.le_of_ble_eq_true rfl)) d_MO_sum_145 ⟨Nat.le_of_ble_eq_true rfl, Nat.le_of_ble_eq_true rfl⟩) hS (fun q _ h => h) (fun q h => h) (fun r75 s76 t H locs ht0 hvm hq hB hz1 hk1 hS => ?_)
                  obtain ⟨hP, -, -⟩ := hB
                  rw [ht0] at hP
                  refine lv_if_ne (tgt := 156) hx hb d_MO_sum_148 (by decide) (fun c77 => ?_) (fun c77 => ?_)
                  · have hq := hq.2 c77
                    refine lv_aload_n hx hb d_MO_sum_156 rfl (lv_at hl 1 rfl) ?_
                    refine cw_get (C := R_MO) (T := F_MO) (N := 39) (v := .int (gI s76 10)) hx hb hts (in_MO _) hown hK hP 0 (by decide) rfl rfl 34 (by decide) (ht _ wC_716) rfl d_MO_sum_157 ?_
                    refine lv_if_ne (tgt := 169) hx hb d_MO_sum_160 (by decide) (fun c78 => ?_) (fun c78 => ?_)
                    · have hq := hq.2 c78
                      exact W.vret hx hb hr (fun t ht hW => ⟨⟨s76, rfl, hq, by rw [ht]; exact hP, va_K.moved hW.alike hK, hN.warm hW⟩, hS.F ht⟩) hS.2.2 d_MO_sum_169
                    · have hq := hq.1 c78
                      refine lv_aload_n hx hb d_MO_sum_163 rfl (lv_at hl 1 rfl) ?_
                      refine lv_dload hx hb d_MO_sum_164 (lv_at hl 0 rfl) ?_
                      refine va_callv (va_runV (As := [.double (FP.ddiv p2 p3)]) (rest := []) ⟨hx, hb, hml, hown, hts⟩ (c_MO_end (D := D) (cs := cs) hi hq) (cwV 1 hts (good_V wC_864 wC_866 wC_29 wC_50 wC_867) rfl rfl rfl (by decide +kernel) ⟨(show 0 + 1 ≤ 1 by omega), (show 8 + (3 + 11) + 0 ≤ 25 by omega)⟩) ⟨mP_blind, va_recv hK hP (ci := 5) (q0 := 0) rfl (wd_at (by decide) rfl), fun U hU hW => ⟨rfl, by rw [hU]; exact hP, va_K.moved hW.alike hK, hN.warm hW⟩⟩ rfl rfl hl.1 rfl (lv_room (Nat.le_of_ble_eq_true rfl)) d_MO_sum_166 ⟨Nat.le_of_ble_eq_true rfl, Nat.le_of_ble_eq_true rfl⟩) hS (fun q _ h => h) (fun q h => h) (fun s80 t H locs ht0 hvm hq hB hz1 hk1 hS => ?_)
                      obtain ⟨hP, -, -⟩ := hB
                      rw [ht0] at hP
                      exact W.vret hx hb hr (fun t ht hW => ⟨⟨s80, rfl, hq, by rw [ht]; exact hP, va_K.moved hW.alike hK, hN.warm hW⟩, hS.F ht⟩) hS.2.2 d_MO_sum_169
                  · have hq := hq.1 c77
                    refine lv_aload_n hx hb d_MO_sum_151 rfl (lv_at hl 1 rfl) ?_
                    refine lv_iconst (v := 2) hx hb d_MO_sum_152 (by decide) ?_
                    refine va_callv (va_runV (As := [.int 2]) (rest := []) ⟨hx, hb, hml, hown, hts⟩ (c_MO_wrong (D := D) (cs := cs) hi hq) (cwV 1 hts (good_V wC_855 wC_857 wC_27 wC_50 wC_858) rfl rfl rfl (by decide +kernel) ⟨(show 0 + 1 ≤ 1 by omega), (show 8 + (2 + 11) + 0 ≤ 25 by omega)⟩) ⟨mP_blind, va_recv hK hP (ci := 5) (q0 := 0) rfl (wd_at (by decide) rfl), fun U hU hW => ⟨rfl, by rw [hU]; exact hP, va_K.moved hW.alike hK, hN.warm hW⟩⟩ rfl rfl hl.1 rfl (lv_room (Nat.le_of_ble_eq_true rfl)) d_MO_sum_153 ⟨Nat.le_of_ble_eq_true rfl, Nat.le_of_ble_eq_true rfl⟩) hS (fun q _ h => h) (fun q h => h) (fun s82 t H locs ht0 hvm hq hB hz1 hk1 hS => ?_)
                    obtain ⟨hP, -, -⟩ := hB
                    rw [ht0] at hP
                    refine lv_aload_n hx hb d_MO_sum_156 rfl (lv_at hl 1 rfl) ?_
                    refine cw_get (C := R_MO) (T := F_MO) (N := 39) (v := .int (gI s82 10)) hx hb hts (in_MO _) hown hK hP 0 (by decide) rfl rfl 34 (by decide) (ht _ wC_716) rfl d_MO_sum_157 ?_
                    refine lv_if_ne (tgt := 169) hx hb d_MO_sum_160 (by decide) (fun c83 => ?_) (fun c83 => ?_)
                    · have hq := hq.2 c83
                      exact W.vret hx hb hr (fun t ht hW => ⟨⟨s82, rfl, hq, by rw [ht]; exact hP, va_K.moved hW.alike hK, hN.warm hW⟩, hS.F ht⟩) hS.2.2 d_MO_sum_169
                    · have hq := hq.1 c83
                      refine lv_aload_n hx hb d_MO_sum_163 rfl (lv_at hl 1 rfl) ?_
                      refine lv_dload hx hb d_MO_sum_164 (lv_at hl 0 rfl) ?_
                      refine va_callv (va_runV (As := [.double (FP.ddiv p2 p3)]) (rest := []) ⟨hx, hb, hml, hown, hts⟩ (c_MO_end (D := D) (cs := cs) hi hq) (cwV 1 hts (good_V wC_864 wC_866 wC_29 wC_50 wC_867) rfl rfl rfl (by decide +kernel) ⟨(show 0 + 1 ≤ 1 by omega), (show 8 + (3 + 11) + 0 ≤ 25 by omega)⟩) ⟨mP_blind, va_recv hK hP (ci := 5) (q0 := 0) rfl (wd_at (by decide) rfl), fun U hU hW => ⟨rfl, by rw [hU]; exact hP, va_K.moved hW.alike hK, hN.warm hW⟩⟩ rfl rfl hl.1 rfl (lv_room (Nat.le_of_ble_eq_true rfl)) d_MO_sum_166 ⟨Nat.le_of_ble_eq_true rfl, Nat.le_of_ble_eq_true rfl⟩) hS (fun q _ h => h) (fun q h => h) (fun s85 t H locs ht0 hvm hq hB hz1 hk1 hS => ?_)
                      obtain ⟨hP, -, -⟩ := hB
                      rw [ht0] at hP
                      exact W.vret hx hb hr (fun t ht hW => ⟨⟨s85, rfl, hq, by rw [ht]; exact hP, va_K.moved hW.alike hK, hN.warm hW⟩, hS.F ht⟩) hS.2.2 d_MO_sum_169
              · have hq := hq.1 c70
                refine lv_dload_n hx hb d_MO_sum_123 rfl (lv_at hl 3 rfl) ?_
                refine lv_dload hx hb d_MO_sum_124 (lv_at hl 4 rfl) ?_
                refine lv_dmul hx hb d_MO_sum_126 hq.1 ?_
                have hq := hq.2
                refine lv_goto (tgt := 134) hx hb d_MO_sum_127 (by decide) ?_
                refine lv_dstore (lv' := [(6, .double (FP.dmul p2 p3)), (0, .ref (am 0)), (1, .int p1), (2, .double p2), (4, .double p3)]) hx hb d_MO_sum_134 hl (by decide) rfl (fun ls hl => ?_)
                refine lv_aload_n hx hb d_MO_sum_136 rfl (lv_at hl 1 rfl) ?_
                refine cw_get (C := R_MO) (T := F_MO) (N := 39) (v := .int (gI σ 10)) hx hb hts (in_MO _) hown hK hP 0 (by decide) rfl rfl 34 (by decide) (ht _ wC_716) rfl d_MO_sum_137 ?_
                refine lv_if_ne (tgt := 156) hx hb d_MO_sum_140 (by decide) (fun c86 => ?_) (fun c86 => ?_)
                · have hq := hq.2 c86
                  refine lv_aload_n hx hb d_MO_sum_156 rfl (lv_at hl 1 rfl) ?_
                  refine cw_get (C := R_MO) (T := F_MO) (N := 39) (v := .int (gI σ 10)) hx hb hts (in_MO _) hown hK hP 0 (by decide) rfl rfl 34 (by decide) (ht _ wC_716) rfl d_MO_sum_157 ?_
                  refine lv_if_ne (tgt := 169) hx hb d_MO_sum_160 (by decide) (fun c87 => ?_) (fun c87 => ?_)
                  · have hq := hq.2 c87
                    exact W.vret hx hb hr (fun t ht hW => ⟨⟨σ, rfl, hq, by rw [ht]; exact hP, va_K.moved hW.alike hK, hN.warm hW⟩, hS.F ht⟩) hS.2.2 d_MO_sum_169
                  · have hq := hq.1 c87
                    refine lv_aload_n hx hb d_MO_sum_163 rfl (lv_at hl 1 rfl) ?_
                    refine lv_dload hx hb d_MO_sum_164 (lv_at hl 0 rfl) ?_
                    refine va_callv (va_runV (As := [.double (FP.dmul p2 p3)]) (rest := []) ⟨hx, hb, hml, hown, hts⟩ (c_MO_end (D := D) (cs := cs) hi hq) (cwV 1 hts (good_V wC_864 wC_866 wC_29 wC_50 wC_867) rfl rfl rfl (by decide +kernel) ⟨(show 0 + 1 ≤ 1 by omega), (show 8 + (3 + 11) + 0 ≤ 25 by omega)⟩) ⟨mP_blind, va_recv hK hP (ci := 5) (q0 := 0) rfl (wd_at (by decide) rfl), fun U hU hW => ⟨rfl, by rw [hU]; exact hP, va_K.moved hW.alike hK, hN.warm hW⟩⟩ rfl rfl hl.1 rfl (lv_room (Nat.le_of_ble_eq_true rfl)) d_MO_sum_166 ⟨Nat.le_of_ble_eq_true rfl, Nat.le_of_ble_eq_true rfl⟩) hS (fun q _ h => h) (fun q h => h) (fun s89 t H locs ht0 hvm hq hB hz1 hk1 hS => ?_)
                    obtain ⟨hP, -, -⟩ := hB
                    rw [ht0] at hP
                    exact W.vret hx hb hr (fun t ht hW => ⟨⟨s89, rfl, hq, by rw [ht]; exact hP, va_K.moved hW.alike hK, hN.warm hW⟩, hS.F ht⟩) hS.2.2 d_MO_sum_169
                · have hq := hq.1 c86
                  refine lv_dload hx hb d_MO_sum_143 (lv_at hl 0 rfl) ?_
                  refine va_calli (va_runS (As := [.double (FP.dmul p2 p3)]) (rest := []) ⟨hx, hb, hml, hown, hts⟩ (c_MO_isGood (D := D) (cs := cs) hi hq) (va_cwS 1 hts (good_S wC_838 wC_839 wC_50 wC_840) rfl rfl rfl (by decide +kernel) ⟨(show 0 + 1 ≤ 1 by omega), (show 8 + (2 + 11) + 0 ≤ 25 by omega)⟩) ⟨mP_blind, fun U hU hW => ⟨rfl, by rw [hU]; exact hP, va_K.moved hW.alike hK, hN.warm hW⟩⟩ rfl rfl hl.1 rfl (lv_room (Nat.le_of_ble_eq_true rfl)) d_MO_sum_145 ⟨Nat.le_of_ble_eq_true rfl, Nat.le_of_ble_eq_true rfl⟩) hS (fun q _ h => h) (fun q h => h) (fun r90 s91 t H locs ht0 hvm hq hB hz1 hk1 hS => ?_)
                  obtain ⟨hP, -, -⟩ := hB
                  rw [ht0] at hP
                  refine lv_if_ne (tgt := 156) hx hb d_MO_sum_148 (by decide) (fun c92 => ?_) (fun c92 => ?_)
                  · have hq := hq.2 c92
                    refine lv_aload_n hx hb d_MO_sum_156 rfl (lv_at hl 1 rfl) ?_
                    refine cw_get (C := R_MO) (T := F_MO) (N := 39) (v := .int (gI s91 10)) hx hb hts (in_MO _) hown hK hP 0 (by decide) rfl rfl 34 (by decide) (ht _ wC_716) rfl d_MO_sum_157 ?_
                    refine lv_if_ne (tgt := 169) hx hb d_MO_sum_160 (by decide) (fun c93 => ?_) (fun c93 => ?_)
                    · have hq := hq.2 c93
                      exact W.vret hx hb hr (fun t ht hW => ⟨⟨s91, rfl, hq, by rw [ht]; exact hP, va_K.moved hW.alike hK, hN.warm hW⟩, hS.F ht⟩) hS.2.2 d_MO_sum_169
                    · have hq := hq.1 c93
                      refine lv_aload_n hx hb d_MO_sum_163 rfl (lv_at hl 1 rfl) ?_
                      refine lv_dload hx hb d_MO_sum_164 (lv_at hl 0 rfl) ?_
                      refine va_callv (va_runV (As := [.double (FP.dmul p2 p3)]) (rest := []) ⟨hx, hb, hml, hown, hts⟩ (c_MO_end (D := D) (cs := cs) hi hq) (cwV 1 hts (good_V wC_864 wC_866 wC_29 wC_50 wC_867) rfl rfl rfl (by decide +kernel) ⟨(show 0 + 1 ≤ 1 by omega), (show 8 + (3 + 11) + 0 ≤ 25 by omega)⟩) ⟨mP_blind, va_recv hK hP (ci := 5) (q0 := 0) rfl (wd_at (by decide) rfl), fun U hU hW => ⟨rfl, by rw [hU]; exact hP, va_K.moved hW.alike hK, hN.warm hW⟩⟩ rfl rfl hl.1 rfl (lv_room (Nat.le_of_ble_eq_true rfl)) d_MO_sum_166 ⟨Nat.le_of_ble_eq_true rfl, Nat.le_of_ble_eq_true rfl⟩) hS (fun q _ h => h) (fun q h => h) (fun s95 t H locs ht0 hvm hq hB hz1 hk1 hS => ?_)
                      obtain ⟨hP, -, -⟩ := hB
                      rw [ht0] at hP
                      exact W.vret hx hb hr (fun t ht hW => ⟨⟨s95, rfl, hq, by rw [ht]; exact hP, va_K.moved hW.alike hK, hN.warm hW⟩, hS.F ht⟩) hS.2.2 d_MO_sum_169
                  · have hq := hq.1 c92
                    refine lv_aload_n hx hb d_MO_sum_151 rfl (lv_at hl 1 rfl) ?_
                    refine lv_iconst (v := 2) hx hb d_MO_sum_152 (by decide) ?_
                    refine va_callv (va_runV (As := [.int 2]) (rest := []) ⟨hx, hb, hml, hown, hts⟩ (c_MO_wrong (D := D) (cs := cs) hi hq) (cwV 1 hts (good_V wC_855 wC_857 wC_27 wC_50 wC_858) rfl rfl rfl (by decide +kernel) ⟨(show 0 + 1 ≤ 1 by omega), (show 8 + (2 + 11) + 0 ≤ 25 by omega)⟩) ⟨mP_blind, va_recv hK hP (ci := 5) (q0 := 0) rfl (wd_at (by decide) rfl), fun U hU hW => ⟨rfl, by rw [hU]; exact hP, va_K.moved hW.alike hK, hN.warm hW⟩⟩ rfl rfl hl.1 rfl (lv_room (Nat.le_of_ble_eq_true rfl)) d_MO_sum_153 ⟨Nat.le_of_ble_eq_true rfl, Nat.le_of_ble_eq_true rfl⟩) hS (fun q _ h => h) (fun q h => h) (fun s97 t H locs ht0 hvm hq hB hz1 hk1 hS => ?_)
                    obtain ⟨hP, -, -⟩ := hB
                    rw [ht0] at hP
                    refine lv_aload_n hx hb d_MO_sum_156 rfl (lv_at hl 1 rfl) ?_
                    refine cw_get (C := R_MO) (T := F_MO) (N := 39) (v := .int (gI s97 10)) hx hb hts (in_MO _) hown hK hP 0 (by decide) rfl rfl 34 (by decide) (ht _ wC_716) rfl d_MO_sum_157 ?_
                    refine lv_if_ne (tgt := 169) hx hb d_MO_sum_160 (by decide) (fun c98 => ?_) (fun c98 => ?_)
                    · have hq := hq.2 c98
                      exact W.vret hx hb hr (fun t ht hW => ⟨⟨s97, rfl, hq, by rw [ht]; exact hP, va_K.moved hW.alike hK, hN.warm hW⟩, hS.F ht⟩) hS.2.2 d_MO_sum_169
                    · have hq := hq.1 c98
                      refine lv_aload_n hx hb d_MO_sum_163 rfl (lv_at hl 1 rfl) ?_
                      refine lv_dload hx hb d_MO_sum_164 (lv_at hl 0 rfl) ?_
                      refine va_callv (va_runV (As := [.double (FP.dmul p2 p3)]) (rest := []) ⟨hx, hb, hml, hown, hts⟩ (c_MO_end (D := D) (cs := cs) hi hq) (cwV 1 hts (good_V wC_864 wC_866 wC_29 wC_50 wC_867) rfl rfl rfl (by decide +kernel) ⟨(show 0 + 1 ≤ 1 by omega), (show 8 + (3 + 11) + 0 ≤ 25 by omega)⟩) ⟨mP_blind, va_recv hK hP (ci := 5) (q0 := 0) rfl (wd_at (by decide) rfl), fun U hU hW => ⟨rfl, by rw [hU]; exact hP, va_K.moved hW.alike hK, hN.warm hW⟩⟩ rfl rfl hl.1 rfl (lv_room (Nat.le_of_ble_eq_true rfl)) d_MO_sum_166 ⟨Nat.le_of_ble_eq_true rfl, Nat.le_of_ble_eq_true rfl⟩) hS (fun q _ h => h) (fun q h => h) (fun s100 t H locs ht0 hvm hq hB hz1 hk1 hS => ?_)
                      obtain ⟨hP, -, -⟩ := hB
                      rw [ht0] at hP
                      exact W.vret hx hb hr (fun t ht hW => ⟨⟨s100, rfl, hq, by rw [ht]; exact hP, va_K.moved hW.alike hK, hN.warm hW⟩, hS.F ht⟩) hS.2.2 d_MO_sum_169
            · have hq := hq.1 c69
              refine lv_dload_n hx hb d_MO_sum_111 rfl (lv_at hl 3 rfl) ?_
              refine lv_dload hx hb d_MO_sum_112 (lv_at hl 4 rfl) ?_
              refine lv_dsub hx hb d_MO_sum_114 hq.1 ?_
              have hq := hq.2
              refine lv_goto (tgt := 134) hx hb d_MO_sum_115 (by decide) ?_
              refine lv_dstore (lv' := [(6, .double (FP.dsub p2 p3)), (0, .ref (am 0)), (1, .int p1), (2, .double p2), (4, .double p3)]) hx hb d_MO_sum_134 hl (by decide) rfl (fun ls hl => ?_)
              refine lv_aload_n hx hb d_MO_sum_136 rfl (lv_at hl 1 rfl) ?_
              refine cw_get (C := R_MO) (T := F_MO) (N := 39) (v := .int (gI σ 10)) hx hb hts (in_MO _) hown hK hP 0 (by decide) rfl rfl 34 (by decide) (ht _ wC_716) rfl d_MO_sum_137 ?_
              refine lv_if_ne (tgt := 156) hx hb d_MO_sum_140 (by decide) (fun c101 => ?_) (fun c101 => ?_)
              · have hq := hq.2 c101
                refine lv_aload_n hx hb d_MO_sum_156 rfl (lv_at hl 1 rfl) ?_
                refine cw_get (C := R_MO) (T := F_MO) (N := 39) (v := .int (gI σ 10)) hx hb hts (in_MO _) hown hK hP 0 (by decide) rfl rfl 34 (by decide) (ht _ wC_716) rfl d_MO_sum_157 ?_
                refine lv_if_ne (tgt := 169) hx hb d_MO_sum_160 (by decide) (fun c102 => ?_) (fun c102 => ?_)
                · have hq := hq.2 c102
                  exact W.vret hx hb hr (fun t ht hW => ⟨⟨σ, rfl, hq, by rw [ht]; exact hP, va_K.moved hW.alike hK, hN.warm hW⟩, hS.F ht⟩) hS.2.2 d_MO_sum_169
                · have hq := hq.1 c102
                  refine lv_aload_n hx hb d_MO_sum_163 rfl (lv_at hl 1 rfl) ?_
                  refine lv_dload hx hb d_MO_sum_164 (lv_at hl 0 rfl) ?_
                  refine va_callv (va_runV (As := [.double (FP.dsub p2 p3)]) (rest := []) ⟨hx, hb, hml, hown, hts⟩ (c_MO_end (D := D) (cs := cs) hi hq) (cwV 1 hts (good_V wC_864 wC_866 wC_29 wC_50 wC_867) rfl rfl rfl (by decide +kernel) ⟨(show 0 + 1 ≤ 1 by omega), (show 8 + (3 + 11) + 0 ≤ 25 by omega)⟩) ⟨mP_blind, va_recv hK hP (ci := 5) (q0 := 0) rfl (wd_at (by decide) rfl), fun U hU hW => ⟨rfl, by rw [hU]; exact hP, va_K.moved hW.alike hK, hN.warm hW⟩⟩ rfl rfl hl.1 rfl (lv_room (Nat.le_of_ble_eq_true rfl)) d_MO_sum_166 ⟨Nat.le_of_ble_eq_true rfl, Nat.le_of_ble_eq_true rfl⟩) hS (fun q _ h => h) (fun q h => h) (fun s104 t H locs ht0 hvm hq hB hz1 hk1 hS => ?_)
                  obtain ⟨hP, -, -⟩ := hB
                  rw [ht0] at hP
                  exact W.vret hx hb hr (fun t ht hW => ⟨⟨s104, rfl, hq, by rw [ht]; exact hP, va_K.moved hW.alike hK, hN.warm hW⟩, hS.F ht⟩) hS.2.2 d_MO_sum_169
              · have hq := hq.1 c101
                refine lv_dload hx hb d_MO_sum_143 (lv_at hl 0 rfl) ?_
                refine va_calli (va_runS (As := [.double (FP.dsub p2 p3)]) (rest := []) ⟨hx, hb, hml, hown, hts⟩ (c_MO_isGood (D := D) (cs := cs) hi hq) (va_cwS 1 hts (good_S wC_838 wC_839 wC_50 wC_840) rfl rfl rfl (by decide +kernel) ⟨(show 0 + 1 ≤ 1 by omega), (show 8 + (2 + 11) + 0 ≤ 25 by omega)⟩) ⟨mP_blind, fun U hU hW => ⟨rfl, by rw [hU]; exact hP, va_K.moved hW.alike hK, hN.warm hW⟩⟩ rfl rfl hl.1 rfl (lv_room (Nat.le_of_ble_eq_true rfl)) d_MO_sum_145 ⟨Nat.le_of_ble_eq_true rfl, Nat.le_of_ble_eq_true rfl⟩) hS (fun q _ h => h) (fun q h => h) (fun r105 s106 t H locs ht0 hvm hq hB hz1 hk1 hS => ?_)
                obtain ⟨hP, -, -⟩ := hB
                rw [ht0] at hP
                refine lv_if_ne (tgt := 156) hx hb d_MO_sum_148 (by decide) (fun c107 => ?_) (fun c107 => ?_)
                · have hq := hq.2 c107
                  refine lv_aload_n hx hb d_MO_sum_156 rfl (lv_at hl 1 rfl) ?_
                  refine cw_get (C := R_MO) (T := F_MO) (N := 39) (v := .int (gI s106 10)) hx hb hts (in_MO _) hown hK hP 0 (by decide) rfl rfl 34 (by decide) (ht _ wC_716) rfl d_MO_sum_157 ?_
                  refine lv_if_ne (tgt := 169) hx hb d_MO_sum_160 (by decide) (fun c108 => ?_) (fun c108 => ?_)
                  · have hq := hq.2 c108
                    exact W.vret hx hb hr (fun t ht hW => ⟨⟨s106, rfl, hq, by rw [ht]; exact hP, va_K.moved hW.alike hK, hN.warm hW⟩, hS.F ht⟩) hS.2.2 d_MO_sum_169
                  · have hq := hq.1 c108
                    refine lv_aload_n hx hb d_MO_sum_163 rfl (lv_at hl 1 rfl) ?_
                    refine lv_dload hx hb d_MO_sum_164 (lv_at hl 0 rfl) ?_
                    refine va_callv (va_runV (As := [.double (FP.dsub p2 p3)]) (rest := []) ⟨hx, hb, hml, hown, hts⟩ (c_MO_end (D := D) (cs := cs) hi hq) (cwV 1 hts (good_V wC_864 wC_866 wC_29 wC_50 wC_867) rfl rfl rfl (by decide +kernel) ⟨(show 0 + 1 ≤ 1 by omega), (show 8 + (3 + 11) + 0 ≤ 25 by omega)⟩) ⟨mP_blind, va_recv hK hP (ci := 5) (q0 := 0) rfl (wd_at (by decide) rfl), fun U hU hW => ⟨rfl, by rw [hU]; exact hP, va_K.moved hW.alike hK, hN.warm hW⟩⟩ rfl rfl hl.1 rfl (lv_room (Nat.le_of_ble_eq_true rfl)) d_MO_sum_166 ⟨Nat.le_of_ble_eq_true rfl, Nat.le_of_ble_eq_true rfl⟩) hS (fun q _ h => h) (fun q h => h) (fun s110 t H locs ht0 hvm hq hB hz1 hk1 hS => ?_)
                    obtain ⟨hP, -, -⟩ := hB
                    rw [ht0] at hP
                    exact W.vret hx hb hr (fun t ht hW => ⟨⟨s110, rfl, hq, by rw [ht]; exact hP, va_K.moved hW.alike hK, hN.warm hW⟩, hS.F ht⟩) hS.2.2 d_MO_sum_169
                · have hq := hq.1 c107
                  refine lv_aload_n hx hb d_MO_sum_151 rfl (lv_at hl 1 rfl) ?_
                  refine lv_iconst (v := 2) hx hb d_MO_sum_152 (by decide) ?_
                  refine va_callv (va_runV (As := [.int 2]) (rest := []) ⟨hx, hb, hml, hown, hts⟩ (c_MO_wrong (D := D) (cs := cs) hi hq) (cwV 1 hts (good_V wC_855 wC_857 wC_27 wC_50 wC_858) rfl rfl rfl (by decide +kernel) ⟨(show 0 + 1 ≤ 1 by omega), (show 8 + (2 + 11) + 0 ≤ 25 by omega)⟩) ⟨mP_blind, va_recv hK hP (ci := 5) (q0 := 0) rfl (wd_at (by decide) rfl), fun U hU hW => ⟨rfl, by rw [hU]; exact hP, va_K.moved hW.alike hK, hN.warm hW⟩⟩ rfl rfl hl.1 rfl (lv_room (Nat.le_of_ble_eq_true rfl)) d_MO_sum_153 ⟨Nat.le_of_ble_eq_true rfl, Nat.le_of_ble_eq_true rfl⟩) hS (fun q _ h => h) (fun q h => h) (fun s112 t H locs ht0 hvm hq hB hz1 hk1 hS => ?_)
                  obtain ⟨hP, -, -⟩ := hB
                  rw [ht0] at hP
                  refine lv_aload_n hx hb d_MO_sum_156 rfl (lv_at hl 1 rfl) ?_
                  refine cw_get (C := R_MO) (T := F_MO) (N := 39) (v := .int (gI s112 10)) hx hb hts (in_MO _) hown hK hP 0 (by decide) rfl rfl 34 (by decide) (ht _ wC_716) rfl d_MO_sum_157 ?_
                  refine lv_if_ne (tgt := 169) hx hb d_MO_sum_160 (by decide) (fun c113 => ?_) (fun c113 => ?_)
                  · have hq := hq.2 c113
                    exact W.vret hx hb hr (fun t ht hW => ⟨⟨s112, rfl, hq, by rw [ht]; exact hP, va_K.moved hW.alike hK, hN.warm hW⟩, hS.F ht⟩) hS.2.2 d_MO_sum_169
                  · have hq := hq.1 c113
                    refine lv_aload_n hx hb d_MO_sum_163 rfl (lv_at hl 1 rfl) ?_
                    refine lv_dload hx hb d_MO_sum_164 (lv_at hl 0 rfl) ?_
                    refine va_callv (va_runV (As := [.double (FP.dsub p2 p3)]) (rest := []) ⟨hx, hb, hml, hown, hts⟩ (c_MO_end (D := D) (cs := cs) hi hq) (cwV 1 hts (good_V wC_864 wC_866 wC_29 wC_50 wC_867) rfl rfl rfl (by decide +kernel) ⟨(show 0 + 1 ≤ 1 by omega), (show 8 + (3 + 11) + 0 ≤ 25 by omega)⟩) ⟨mP_blind, va_recv hK hP (ci := 5) (q0 := 0) rfl (wd_at (by decide) rfl), fun U hU hW => ⟨rfl, by rw [hU]; exact hP, va_K.moved hW.alike hK, hN.warm hW⟩⟩ rfl rfl hl.1 rfl (lv_room (Nat.le_of_ble_eq_true rfl)) d_MO_sum_166 ⟨Nat.le_of_ble_eq_true rfl, Nat.le_of_ble_eq_true rfl⟩) hS (fun q _ h => h) (fun q h => h) (fun s115 t H locs ht0 hvm hq hB hz1 hk1 hS => ?_)
                    obtain ⟨hP, -, -⟩ := hB
                    rw [ht0] at hP
                    exact W.vret hx hb hr (fun t ht hW => ⟨⟨s115, rfl, hq, by rw [ht]; exact hP, va_K.moved hW.alike hK, hN.warm hW⟩, hS.F ht⟩) hS.2.2 d_MO_sum_169
          · have hq := hq.1 c68
            refine lv_dload_n hx hb d_MO_sum_99 rfl (lv_at hl 3 rfl) ?_
            refine lv_dload hx hb d_MO_sum_100 (lv_at hl 4 rfl) ?_
            refine lv_dadd hx hb d_MO_sum_102 hq.1 ?_
            have hq := hq.2
            refine lv_goto (tgt := 134) hx hb d_MO_sum_103 (by decide) ?_
            refine lv_dstore (lv' := [(6, .double (FP.dadd p2 p3)), (0, .ref (am 0)), (1, .int p1), (2, .double p2), (4, .double p3)]) hx hb d_MO_sum_134 hl (by decide) rfl (fun ls hl => ?_)
            refine lv_aload_n hx hb d_MO_sum_136 rfl (lv_at hl 1 rfl) ?_
            refine cw_get (C := R_MO) (T := F_MO) (N := 39) (v := .int (gI σ 10)) hx hb hts (in_MO _) hown hK hP 0 (by decide) rfl rfl 34 (by decide) (ht _ wC_716) rfl d_MO_sum_137 ?_
            refine lv_if_ne (tgt := 156) hx hb d_MO_sum_140 (by decide) (fun c116 => ?_) (fun c116 => ?_)
            · have hq := hq.2 c116
              refine lv_aload_n hx hb d_MO_sum_156 rfl (lv_at hl 1 rfl) ?_
              refine cw_get (C := R_MO) (T := F_MO) (N := 39) (v := .int (gI σ 10)) hx hb hts (in_MO _) hown hK hP 0 (by decide) rfl rfl 34 (by decide) (ht _ wC_716) rfl d_MO_sum_157 ?_
              refine lv_if_ne (tgt := 169) hx hb d_MO_sum_160 (by decide) (fun c117 => ?_) (fun c117 => ?_)
              · have hq := hq.2 c117
                exact W.vret hx hb hr (fun t ht hW => ⟨⟨σ, rfl, hq, by rw [ht]; exact hP, va_K.moved hW.alike hK, hN.warm hW⟩, hS.F ht⟩) hS.2.2 d_MO_sum_169
              · have hq := hq.1 c117
                refine lv_aload_n hx hb d_MO_sum_163 rfl (lv_at hl 1 rfl) ?_
                refine lv_dload hx hb d_MO_sum_164 (lv_at hl 0 rfl) ?_
                refine va_callv (va_runV (As := [.double (FP.dadd p2 p3)]) (rest := []) ⟨hx, hb, hml, hown, hts⟩ (c_MO_end (D := D) (cs := cs) hi hq) (cwV 1 hts (good_V wC_864 wC_866 wC_29 wC_50 wC_867) rfl rfl rfl (by decide +kernel) ⟨(show 0 + 1 ≤ 1 by omega), (show 8 + (3 + 11) + 0 ≤ 25 by omega)⟩) ⟨mP_blind, va_recv hK hP (ci := 5) (q0 := 0) rfl (wd_at (by decide) rfl), fun U hU hW => ⟨rfl, by rw [hU]; exact hP, va_K.moved hW.alike hK, hN.warm hW⟩⟩ rfl rfl hl.1 rfl (lv_room (Nat.le_of_ble_eq_true rfl)) d_MO_sum_166 ⟨Nat.le_of_ble_eq_true rfl, Nat.le_of_ble_eq_true rfl⟩) hS (fun q _ h => h) (fun q h => h) (fun s119 t H locs ht0 hvm hq hB hz1 hk1 hS => ?_)
                obtain ⟨hP, -, -⟩ := hB
                rw [ht0] at hP
                exact W.vret hx hb hr (fun t ht hW => ⟨⟨s119, rfl, hq, by rw [ht]; exact hP, va_K.moved hW.alike hK, hN.warm hW⟩, hS.F ht⟩) hS.2.2 d_MO_sum_169
            · have hq := hq.1 c116
              refine lv_dload hx hb d_MO_sum_143 (lv_at hl 0 rfl) ?_
              refine va_calli (va_runS (As := [.double (FP.dadd p2 p3)]) (rest := []) ⟨hx, hb, hml, hown, hts⟩ (c_MO_isGood (D := D) (cs := cs) hi hq) (va_cwS 1 hts (good_S wC_838 wC_839 wC_50 wC_840) rfl rfl rfl (by decide +kernel) ⟨(show 0 + 1 ≤ 1 by omega), (show 8 + (2 + 11) + 0 ≤ 25 by omega)⟩) ⟨mP_blind, fun U hU hW => ⟨rfl, by rw [hU]; exact hP, va_K.moved hW.alike hK, hN.warm hW⟩⟩ rfl rfl hl.1 rfl (lv_room (Nat.le_of_ble_eq_true rfl)) d_MO_sum_145 ⟨Nat.le_of_ble_eq_true rfl, Nat.le_of_ble_eq_true rfl⟩) hS (fun q _ h => h) (fun q h => h) (fun r120 s121 t H locs ht0 hvm hq hB hz1 hk1 hS => ?_)
              obtain ⟨hP, -, -⟩ := hB
              rw [ht0] at hP
              refine lv_if_ne (tgt := 156) hx hb d_MO_sum_148 (by decide) (fun c122 => ?_) (fun c122 => ?_)
              · have hq := hq.2 c122
                refine lv_aload_n hx hb d_MO_sum_156 rfl (lv_at hl 1 rfl) ?_
                refine cw_get (C := R_MO) (T := F_MO) (N := 39) (v := .int (gI s121 10)) hx hb hts (in_MO _) hown hK hP 0 (by decide) rfl rfl 34 (by decide) (ht _ wC_716) rfl d_MO_sum_157 ?_
                refine lv_if_ne (tgt := 169) hx hb d_MO_sum_160 (by decide) (fun c123 => ?_) (fun c123 => ?_)
                · have hq := hq.2 c123
                  exact W.vret hx hb hr (fun t ht hW => ⟨⟨s121, rfl, hq, by rw [ht]; exact hP, va_K.moved hW.alike hK, hN.warm hW⟩, hS.F ht⟩) hS.2.2 d_MO_sum_169
                · have hq := hq.1 c123
                  refine lv_aload_n hx hb d_MO_sum_163 rfl (lv_at hl 1 rfl) ?_
                  refine lv_dload hx hb d_MO_sum_164 (lv_at hl 0 rfl) ?_
                  refine va_callv (va_runV (As := [.double (FP.dadd p2 p3)]) (rest := []) ⟨hx, hb, hml, hown, hts⟩ (c_MO_end (D := D) (cs := cs) hi hq) (cwV 1 hts (good_V wC_864 wC_866 wC_29 wC_50 wC_867) rfl rfl rfl (by decide +kernel) ⟨(show 0 + 1 ≤ 1 by omega), (show 8 + (3 + 11) + 0 ≤ 25 by omega)⟩) ⟨mP_blind, va_recv hK hP (ci := 5) (q0 := 0) rfl (wd_at (by decide) rfl), fun U hU hW => ⟨rfl, by rw [hU]; exact hP, va_K.moved hW.alike hK, hN.warm hW⟩⟩ rfl rfl hl.1 rfl (lv_room (Nat.le_of_ble_eq_true rfl)) d_MO_sum_166 ⟨Nat.le_of_ble_eq_true rfl, Nat.le_of_ble_eq_true rfl⟩) hS (fun q _ h => h) (fun q h => h) (fun s125 t H locs ht0 hvm hq hB hz1 hk1 hS => ?_)
                  obtain ⟨hP, -, -⟩ := hB
                  rw [ht0] at hP
                  exact W.vret hx hb hr (fun t ht hW => ⟨⟨s125, rfl, hq, by rw [ht]; exact hP, va_K.moved hW.alike hK, hN.warm hW⟩, hS.F ht⟩) hS.2.2 d_MO_sum_169
              · have hq := hq.1 c122
                refine lv_aload_n hx hb d_MO_sum_151 rfl (lv_at hl 1 rfl) ?_
                refine lv_iconst (v := 2) hx hb d_MO_sum_152 (by decide) ?_
                refine va_callv (va_runV (As := [.int 2]) (rest := []) ⟨hx, hb, hml, hown, hts⟩ (c_MO_wrong (D := D) (cs := cs) hi hq) (cwV 1 hts (good_V wC_855 wC_857 wC_27 wC_50 wC_858) rfl rfl rfl (by decide +kernel) ⟨(show 0 + 1 ≤ 1 by omega), (show 8 + (2 + 11) + 0 ≤ 25 by omega)⟩) ⟨mP_blind, va_recv hK hP (ci := 5) (q0 := 0) rfl (wd_at (by decide) rfl), fun U hU hW => ⟨rfl, by rw [hU]; exact hP, va_K.moved hW.alike hK, hN.warm hW⟩⟩ rfl rfl hl.1 rfl (lv_room (Nat.le_of_ble_eq_true rfl)) d_MO_sum_153 ⟨Nat.le_of_ble_eq_true rfl, Nat.le_of_ble_eq_true rfl⟩) hS (fun q _ h => h) (fun q h => h) (fun s127 t H locs ht0 hvm hq hB hz1 hk1 hS => ?_)
                obtain ⟨hP, -, -⟩ := hB
                rw [ht0] at hP
                refine lv_aload_n hx hb d_MO_sum_156 rfl (lv_at hl 1 rfl) ?_
                refine cw_get (C := R_MO) (T := F_MO) (N := 39) (v := .int (gI s127 10)) hx hb hts (in_MO _) hown hK hP 0 (by decide) rfl rfl 34 (by decide) (ht _ wC_716) rfl d_MO_sum_157 ?_
                refine lv_if_ne (tgt := 169) hx hb d_MO_sum_160 (by decide) (fun c128 => ?_) (fun c128 => ?_)
                · have hq := hq.2 c128
                  exact W.vret hx hb hr (fun t ht hW => ⟨⟨s127, rfl, hq, by rw [ht]; exact hP, va_K.moved hW.alike hK, hN.warm hW⟩, hS.F ht⟩) hS.2.2 d_MO_sum_169
                · have hq := hq.1 c128
                  refine lv_aload_n hx hb d_MO_sum_163 rfl (lv_at hl 1 rfl) ?_
                  refine lv_dload hx hb d_MO_sum_164 (lv_at hl 0 rfl) ?_
                  refine va_callv (va_runV (As := [.double (FP.dadd p2 p3)]) (rest := []) ⟨hx, hb, hml, hown, hts⟩ (c_MO_end (D := D) (cs := cs) hi hq) (cwV 1 hts (good_V wC_864 wC_866 wC_29 wC_50 wC_867) rfl rfl rfl (by decide +kernel) ⟨(show 0 + 1 ≤ 1 by omega), (show 8 + (3 + 11) + 0 ≤ 25 by omega)⟩) ⟨mP_blind, va_recv hK hP (ci := 5) (q0 := 0) rfl (wd_at (by decide) rfl), fun U hU hW => ⟨rfl, by rw [hU]; exact hP, va_K.moved hW.alike hK, hN.warm hW⟩⟩ rfl rfl hl.1 rfl (lv_room (Nat.le_of_ble_eq_true rfl)) d_MO_sum_166 ⟨Nat.le_of_ble_eq_true rfl, Nat.le_of_ble_eq_true rfl⟩) hS (fun q _ h => h) (fun q h => h) (fun s130 t H locs ht0 hvm hq hB hz1 hk1 hS => ?_)
                  obtain ⟨hP, -, -⟩ := hB
                  rw [ht0] at hP
                  exact W.vret hx hb hr (fun t ht hW => ⟨⟨s130, rfl, hq, by rw [ht]; exact hP, va_K.moved hW.alike hK, hN.warm hW⟩, hS.F ht⟩) hS.2.2 d_MO_sum_169
        · have hq := hq.1 c67
          refine lv_aload_n hx hb d_MO_sum_86 rfl (lv_at hl 1 rfl) ?_
          refine lv_iconst (v := 1) hx hb d_MO_sum_87 (by decide) ?_
          refine va_callv (va_runV (As := [.int 1]) (rest := []) ⟨hx, hb, hml, hown, hts⟩ (c_MO_wrong (D := D) (cs := cs) hi hq) (cwV 1 hts (good_V wC_855 wC_857 wC_27 wC_50 wC_858) rfl rfl rfl (by decide +kernel) ⟨(show 0 + 1 ≤ 1 by omega), (show 8 + (2 + 11) + 0 ≤ 25 by omega)⟩) ⟨mP_blind, va_recv hK hP (ci := 5) (q0 := 0) rfl (wd_at (by decide) rfl), fun U hU hW => ⟨rfl, by rw [hU]; exact hP, va_K.moved hW.alike hK, hN.warm hW⟩⟩ rfl rfl hl.1 rfl (lv_room (Nat.le_of_ble_eq_true rfl)) d_MO_sum_88 ⟨Nat.le_of_ble_eq_true rfl, Nat.le_of_ble_eq_true rfl⟩) hS (fun q _ h => h) (fun q h => h) (fun s132 t H locs ht0 hvm hq hB hz1 hk1 hS => ?_)
          obtain ⟨hP, -, -⟩ := hB
          rw [ht0] at hP
          refine lv_goto (tgt := 156) hx hb d_MO_sum_91 (by decide) ?_
          refine lv_aload_n hx hb d_MO_sum_156 rfl (lv_at hl 1 rfl) ?_
          refine cw_get (C := R_MO) (T := F_MO) (N := 39) (v := .int (gI s132 10)) hx hb hts (in_MO _) hown hK hP 0 (by decide) rfl rfl 34 (by decide) (ht _ wC_716) rfl d_MO_sum_157 ?_
          refine lv_if_ne (tgt := 169) hx hb d_MO_sum_160 (by decide) (fun c133 => ?_) (fun c133 => ?_)
          · have hq := hq.2 c133
            exact W.vret hx hb hr (fun t ht hW => ⟨⟨s132, rfl, hq, by rw [ht]; exact hP, va_K.moved hW.alike hK, hN.warm hW⟩, hS.F ht⟩) hS.2.2 d_MO_sum_169
          · have hq := hq.1 c133
            refine lv_aload_n hx hb d_MO_sum_163 rfl (lv_at hl 1 rfl) ?_
            refine lv_dload hx hb d_MO_sum_164 (lv_at hl 0 rfl) ?_
            refine va_callv (va_runV (As := [.double FP.dconst0]) (rest := []) ⟨hx, hb, hml, hown, hts⟩ (c_MO_end (D := D) (cs := cs) hi hq) (cwV 1 hts (good_V wC_864 wC_866 wC_29 wC_50 wC_867) rfl rfl rfl (by decide +kernel) ⟨(show 0 + 1 ≤ 1 by omega), (show 8 + (3 + 11) + 0 ≤ 25 by omega)⟩) ⟨mP_blind, va_recv hK hP (ci := 5) (q0 := 0) rfl (wd_at (by decide) rfl), fun U hU hW => ⟨rfl, by rw [hU]; exact hP, va_K.moved hW.alike hK, hN.warm hW⟩⟩ rfl rfl hl.1 rfl (lv_room (Nat.le_of_ble_eq_true rfl)) d_MO_sum_166 ⟨Nat.le_of_ble_eq_true rfl, Nat.le_of_ble_eq_true rfl⟩) hS (fun q _ h => h) (fun q h => h) (fun s135 t H locs ht0 hvm hq hB hz1 hk1 hS => ?_)
            obtain ⟨hP, -, -⟩ := hB
            rw [ht0] at hP
            exact W.vret hx hb hr (fun t ht hW => ⟨⟨s135, rfl, hq, by rw [ht]; exact hP, va_K.moved hW.alike hK, hN.warm hW⟩, hS.F ht⟩) hS.2.2 d_MO_sum_169
    · have hq := hq.1 c2
      refine lv_dload_n hx hb d_MO_sum_56 rfl (lv_at hl 3 rfl) ?_
      refine lv_dload hx hb d_MO_sum_57 (lv_at hl 4 rfl) ?_
      refine lv_dcmp hx hb d_MO_sum_59 ?_
      refine lv_if_ge (tgt := 67) hx hb d_MO_sum_60 (by decide) (fun c136 => ?_) (fun c136 => ?_)
      · have hq := hq.1 c136
        refine lv_dconst0 hx hb d_MO_sum_67 ?_
        refine lv_dstore (lv' := [(6, .double FP.dconst0), (0, .ref (am 0)), (1, .int p1), (2, .double p2), (4, .double p3)]) hx hb d_MO_sum_68 hl (by decide) rfl (fun ls hl => ?_)
        refine lv_goto (tgt := 156) hx hb d_MO_sum_70 (by decide) ?_
        refine lv_aload_n hx hb d_MO_sum_156 rfl (lv_at hl 1 rfl) ?_
        refine cw_get (C := R_MO) (T := F_MO) (N := 39) (v := .int (gI σ 10)) hx hb hts (in_MO _) hown hK hP 0 (by decide) rfl rfl 34 (by decide) (ht _ wC_716) rfl d_MO_sum_157 ?_
        refine lv_if_ne (tgt := 169) hx hb d_MO_sum_160 (by decide) (fun c137 => ?_) (fun c137 => ?_)
        · have hq := hq.2 c137
          exact W.vret hx hb hr (fun t ht hW => ⟨⟨σ, rfl, hq, by rw [ht]; exact hP, va_K.moved hW.alike hK, hN.warm hW⟩, hS.F ht⟩) hS.2.2 d_MO_sum_169
        · have hq := hq.1 c137
          refine lv_aload_n hx hb d_MO_sum_163 rfl (lv_at hl 1 rfl) ?_
          refine lv_dload hx hb d_MO_sum_164 (lv_at hl 0 rfl) ?_
          refine va_callv (va_runV (As := [.double FP.dconst0]) (rest := []) ⟨hx, hb, hml, hown, hts⟩ (c_MO_end (D := D) (cs := cs) hi hq) (cwV 1 hts (good_V wC_864 wC_866 wC_29 wC_50 wC_867) rfl rfl rfl (by decide +kernel) ⟨(show 0 + 1 ≤ 1 by omega), (show 8 + (3 + 11) + 0 ≤ 25 by omega)⟩) ⟨mP_blind, va_recv hK hP (ci := 5) (q0 := 0) rfl (wd_at (by decide) rfl), fun U hU hW => ⟨rfl, by rw [hU]; exact hP, va_K.moved hW.alike hK, hN.warm hW⟩⟩ rfl rfl hl.1 rfl (lv_room (Nat.le_of_ble_eq_true rfl)) d_MO_sum_166 ⟨Nat.le_of_ble_eq_true rfl, Nat.le_of_ble_eq_true rfl⟩) hS (fun q _ h => h) (fun q h => h) (fun s139 t H locs ht0 hvm hq hB hz1 hk1 hS => ?_)
          obtain ⟨hP, -, -⟩ := hB
          rw [ht0] at hP
          exact W.vret hx hb hr (fun t ht hW => ⟨⟨s139, rfl, hq, by rw [ht]; exact hP, va_K.moved hW.alike hK, hN.warm hW⟩, hS.F ht⟩) hS.2.2 d_MO_sum_169
      · have hq := hq.2 c136
        refine lv_dconst1 hx hb d_MO_sum_63 ?_
        refine lv_goto (tgt := 68) hx hb d_MO_sum_64 (by decide) ?_
        refine lv_dstore (lv' := [(6, .double FP.dconst1), (0, .ref (am 0)), (1, .int p1), (2, .double p2), (4, .double p3)]) hx hb d_MO_sum_68 hl (by decide) rfl (fun ls hl => ?_)
        refine lv_goto (tgt := 156) hx hb d_MO_sum_70 (by decide) ?_
        refine lv_aload_n hx hb d_MO_sum_156 rfl (lv_at hl 1 rfl) ?_
        refine cw_get (C := R_MO) (T := F_MO) (N := 39) (v := .int (gI σ 10)) hx hb hts (in_MO _) hown hK hP 0 (by decide) rfl rfl 34 (by decide) (ht _ wC_716) rfl d_MO_sum_157 ?_
        refine lv_if_ne (tgt := 169) hx hb d_MO_sum_160 (by decide) (fun c140 => ?_) (fun c140 => ?_)
        · have hq := hq.2 c140
          exact W.vret hx hb hr (fun t ht hW => ⟨⟨σ, rfl, hq, by rw [ht]; exact hP, va_K.moved hW.alike hK, hN.warm hW⟩, hS.F ht⟩) hS.2.2 d_MO_sum_169
        · have hq := hq.1 c140
          refine lv_aload_n hx hb d_MO_sum_163 rfl (lv_at hl 1 rfl) ?_
          refine lv_dload hx hb d_MO_sum_164 (lv_at hl 0 rfl) ?_
          refine va_callv (va_runV (As := [.double FP.dconst1]) (rest := []) ⟨hx, hb, hml, hown, hts⟩ (c_MO_end (D := D) (cs := cs) hi hq) (cwV 1 hts (good_V wC_864 wC_866 wC_29 wC_50 wC_867) rfl rfl rfl (by decide +kernel) ⟨(show 0 + 1 ≤ 1 by omega), (show 8 + (3 + 11) + 0 ≤ 25 by omega)⟩) ⟨mP_blind, va_recv hK hP (ci := 5) (q0 := 0) rfl (wd_at (by decide) rfl), fun U hU hW => ⟨rfl, by rw [hU]; exact hP, va_K.moved hW.alike hK, hN.warm hW⟩⟩ rfl rfl hl.1 rfl (lv_room (Nat.le_of_ble_eq_true rfl)) d_MO_sum_166 ⟨Nat.le_of_ble_eq_true rfl, Nat.le_of_ble_eq_true rfl⟩) hS (fun q _ h => h) (fun q h => h) (fun s142 t H locs ht0 hvm hq hB hz1 hk1 hS => ?_)
          obtain ⟨hP, -, -⟩ := hB
          rw [ht0] at hP
          exact W.vret hx hb hr (fun t ht hW => ⟨⟨s142, rfl, hq, by rw [ht]; exact hP, va_K.moved hW.alike hK, hN.warm hW⟩, hS.F ht⟩) hS.2.2 d_MO_sum_169
  · have hq := hq.1 c1
    refine lv_dload_n hx hb d_MO_sum_9 rfl (lv_at hl 3 rfl) ?_
    refine va_calld (va_runS (As := [.double p2]) (rest := []) ⟨hx, hb, hml, hown, hts⟩ (c_MO_round (D := D) (cs := cs) hi hq) (va_cwS 1 hts (good_S wC_843 wC_844 wC_50 wC_845) rfl rfl rfl (by decide +kernel) ⟨(show 0 + 1 ≤ 1 by omega), (show 8 + (6 + 11) + 0 ≤ 25 by omega)⟩) ⟨mP_blind, fun U hU hW => ⟨rfl, by rw [hU]; exact hP, va_K.moved hW.alike hK, hN.warm hW⟩⟩ rfl rfl hl.1 rfl (lv_room (Nat.le_of_ble_eq_true rfl)) d_MO_sum_10 ⟨Nat.le_of_ble_eq_true rfl, Nat.le_of_ble_eq_true rfl⟩) hS (fun q _ h => h) (fun q h => h) (fun r143 s144 t H locs ht0 hvm hq hB hz1 hk1 hS => ?_)
    obtain ⟨hP, -, -⟩ := hB
    rw [ht0] at hP
    refine lv_d2l hx hb d_MO_sum_13 ?_
    refine lv_lstore (lv' := [(8, .long (FP.d2l r143)), (6, .double FP.dconst0), (0, .ref (am 0)), (1, .int p1), (2, .double p2), (4, .double p3)]) hx hb d_MO_sum_14 hl (by decide) rfl (fun ls hl => ?_)
    refine lv_dload hx hb d_MO_sum_16 (lv_at hl 5 rfl) ?_
    refine va_calld (va_runS (As := [.double p3]) (rest := []) ⟨hx, hb, hml, hown, hts⟩ (c_MO_round (D := D) (cs := cs) hi hq) (va_cwS 1 hts (good_S wC_843 wC_844 wC_50 wC_845) rfl rfl rfl (by decide +kernel) ⟨(show 0 + 1 ≤ 1 by omega), (show 8 + (6 + 11) + 0 ≤ 25 by omega)⟩) ⟨mP_blind, fun U hU hW => ⟨rfl, by rw [hU]; exact hP, va_K.moved hW.alike hK, hN.warm hW⟩⟩ rfl rfl hl.1 rfl (lv_room (Nat.le_of_ble_eq_true rfl)) d_MO_sum_18 ⟨Nat.le_of_ble_eq_true rfl, Nat.le_of_ble_eq_true rfl⟩) hS (fun q _ h => h) (fun q h => h) (fun r145 s146 t H locs ht0 hvm hq hB hz1 hk1 hS => ?_)
    obtain ⟨hP, -, -⟩ := hB
    rw [ht0] at hP
    refine lv_d2l hx hb d_MO_sum_21 ?_
    refine lv_lstore (lv' := [(10, .long (FP.d2l r145)), (8, .long (FP.d2l r143)), (6, .double FP.dconst0), (0, .ref (am 0)), (1, .int p1), (2, .double p2), (4, .double p3)]) hx hb d_MO_sum_22 hl (by decide) rfl (fun ls hl => ?_)
    refine lv_lload hx hb d_MO_sum_24 (lv_at hl 0 rfl) ?_
    refine lv_lconst (v := 0) hx hb d_MO_sum_26 (by decide) ?_
    refine W.lcmp hx hb d_MO_sum_27 ?_
    refine lv_if_ne (tgt := 39) hx hb d_MO_sum_28 (by decide) (fun c147 => ?_) (fun c147 => ?_)
    · have hq := hq.2 c147
      refine lv_lload hx hb d_MO_sum_39 (lv_at hl 1 rfl) ?_
      refine lv_lload hx hb d_MO_sum_41 (lv_at hl 0 rfl) ?_
      refine lv_ldiv hx hb d_MO_sum_43 hq.1 ?_
      have hq := hq.2
      refine lv_l2d hx hb d_MO_sum_44 ?_
      refine lv_dstore (lv' := [(6, .double (FP.l2d ((FP.d2l r143) / (FP.d2l r145)))), (10, .long (FP.d2l r145)), (8, .long (FP.d2l r143)), (0, .ref (am 0)), (1, .int p1), (2, .double p2), (4, .double p3)]) hx hb d_MO_sum_45 hl (by decide) rfl (fun ls hl => ?_)
      refine lv_goto (tgt := 156) hx hb d_MO_sum_47 (by decide) ?_
      refine lv_aload_n hx hb d_MO_sum_156 rfl (lv_at hl 3 rfl) ?_
      refine cw_get (C := R_MO) (T := F_MO) (N := 39) (v := .int (gI s146 10)) hx hb hts (in_MO _) hown hK hP 0 (by decide) rfl rfl 34 (by decide) (ht _ wC_716) rfl d_MO_sum_157 ?_
      refine lv_if_ne (tgt := 169) hx hb d_MO_sum_160 (by decide) (fun c148 => ?_) (fun c148 => ?_)
      · have hq := hq.2 c148
        exact W.vret hx hb hr (fun t ht hW => ⟨⟨s146, rfl, hq, by rw [ht]; exact hP, va_K.moved hW.alike hK, hN.warm hW⟩, hS.F ht⟩) hS.2.2 d_MO_sum_169
      · have hq := hq.1 c148
        refine lv_aload_n hx hb d_MO_sum_163 rfl (lv_at hl 3 rfl) ?_
        refine lv_dload hx hb d_MO_sum_164 (lv_at hl 0 rfl) ?_
        refine va_callv (va_runV (As := [.double (FP.l2d ((FP.d2l r143) / (FP.d2l r145)))]) (rest := []) ⟨hx, hb, hml, hown, hts⟩ (c_MO_end (D := D) (cs := cs) hi hq) (cwV 1 hts (good_V wC_864 wC_866 wC_29 wC_50 wC_867) rfl rfl rfl (by decide +kernel) ⟨(show 0 + 1 ≤ 1 by omega), (show 8 + (3 + 11) + 0 ≤ 25 by omega)⟩) ⟨mP_blind, va_recv hK hP (ci := 5) (q0 := 0) rfl (wd_at (by decide) rfl), fun U hU hW => ⟨rfl, by rw [hU]; exact hP, va_K.moved hW.alike hK, hN.warm hW⟩⟩ rfl rfl hl.1 rfl (lv_room (Nat.le_of_ble_eq_true rfl)) d_MO_sum_166 ⟨Nat.le_of_ble_eq_true rfl, Nat.le_of_ble_eq_true rfl⟩) hS (fun q _ h => h) (fun q h => h) (fun s150 t H locs ht0 hvm hq hB hz1 hk1 hS => ?_)
        obtain ⟨hP, -, -⟩ := hB
        rw [ht0] at hP
        exact W.vret hx hb hr (fun t ht hW => ⟨⟨s150, rfl, hq, by rw [ht]; exact hP, va_K.moved hW.alike hK, hN.warm hW⟩, hS.F ht⟩) hS.2.2 d_MO_sum_169
    · have hq := hq.1 c147
      refine lv_aload_n hx hb d_MO_sum_31 rfl (lv_at hl 3 rfl) ?_
      refine lv_iconst (v := 1) hx hb d_MO_sum_32 (by decide) ?_
      refine va_callv (va_runV (As := [.int 1]) (rest := []) ⟨hx, hb, hml, hown, hts⟩ (c_MO_wrong (D := D) (cs := cs) hi hq) (cwV 1 hts (good_V wC_855 wC_857 wC_27 wC_50 wC_858) rfl rfl rfl (by decide +kernel) ⟨(show 0 + 1 ≤ 1 by omega), (show 8 + (2 + 11) + 0 ≤ 25 by omega)⟩) ⟨mP_blind, va_recv hK hP (ci := 5) (q0 := 0) rfl (wd_at (by decide) rfl), fun U hU hW => ⟨rfl, by rw [hU]; exact hP, va_K.moved hW.alike hK, hN.warm hW⟩⟩ rfl rfl hl.1 rfl (lv_room (Nat.le_of_ble_eq_true rfl)) d_MO_sum_33 ⟨Nat.le_of_ble_eq_true rfl, Nat.le_of_ble_eq_true rfl⟩) hS (fun q _ h => h) (fun q h => h) (fun s152 t H locs ht0 hvm hq hB hz1 hk1 hS => ?_)
      obtain ⟨hP, -, -⟩ := hB
      rw [ht0] at hP
      refine lv_goto (tgt := 47) hx hb d_MO_sum_36 (by decide) ?_
      refine lv_goto (tgt := 156) hx hb d_MO_sum_47 (by decide) ?_
      refine lv_aload_n hx hb d_MO_sum_156 rfl (lv_at hl 3 rfl) ?_
      refine cw_get (C := R_MO) (T := F_MO) (N := 39) (v := .int (gI s152 10)) hx hb hts (in_MO _) hown hK hP 0 (by decide) rfl rfl 34 (by decide) (ht _ wC_716) rfl d_MO_sum_157 ?_
      refine lv_if_ne (tgt := 169) hx hb d_MO_sum_160 (by decide) (fun c153 => ?_) (fun c153 => ?_)
      · have hq := hq.2 c153
        exact W.vret hx hb hr (fun t ht hW => ⟨⟨s152, rfl, hq, by rw [ht]; exact hP, va_K.moved hW.alike hK, hN.warm hW⟩, hS.F ht⟩) hS.2.2 d_MO_sum_169
      · have hq := hq.1 c153
        refine lv_aload_n hx hb d_MO_sum_163 rfl (lv_at hl 3 rfl) ?_
        refine lv_dload hx hb d_MO_sum_164 (lv_at hl 2 rfl) ?_
        refine va_callv (va_runV (As := [.double FP.dconst0]) (rest := []) ⟨hx, hb, hml, hown, hts⟩ (c_MO_end (D := D) (cs := cs) hi hq) (cwV 1 hts (good_V wC_864 wC_866 wC_29 wC_50 wC_867) rfl rfl rfl (by decide +kernel) ⟨(show 0 + 1 ≤ 1 by omega), (show 8 + (3 + 11) + 0 ≤ 25 by omega)⟩) ⟨mP_blind, va_recv hK hP (ci := 5) (q0 := 0) rfl (wd_at (by decide) rfl), fun U hU hW => ⟨rfl, by rw [hU]; exact hP, va_K.moved hW.alike hK, hN.warm hW⟩⟩ rfl rfl hl.1 rfl (lv_room (Nat.le_of_ble_eq_true rfl)) d_MO_sum_166 ⟨Nat.le_of_ble_eq_true rfl, Nat.le_of_ble_eq_true rfl⟩) hS (fun q _ h => h) (fun q h => h) (fun s155 t H locs ht0 hvm hq hB hz1 hk1 hS => ?_)
        obtain ⟨hP, -, -⟩ := hB
        rw [ht0] at hP
        exact W.vret hx hb hr (fun t ht hW => ⟨⟨s155, rfl, hq, by rw [ht]; exact hP, va_K.moved hW.alike hK, hN.warm hW⟩, hS.F ht⟩) hS.2.2 d_MO_sum_169
def wp_MO_pair (p1 : Int32) (p2 : Int32) (σ : CS) (Q : CS → Prop) : Prop := (vp_in p1 310 ∧ (vp_in p1 310 ∧ (vp_in p1 310 ∧ (∀ s1 : CS, s1 = sA σ 13 (upd (gA σ 13) p1.toNatClampNeg ((gA σ 13 p1.toNatClampNeg) + 1)) → (((gA σ 13 p1.toNatClampNeg) = 0 → (vp_in p2 48 ∧ (vp_in p1 310 ∧ (wp_MO_enter (gA s1 1 p2.toNatClampNeg) (gA s1 12 p1.toNatClampNeg) s1 (fun s22 => Q s22))))) ∧ (¬ (gA σ 13 p1.toNatClampNeg) = 0 → (((gA σ 13 p1.toNatClampNeg) = 1 → (vp_in p1 310 ∧ (∀ s18 : CS, s18 = sD s1 4 (vf_upd (gD s1 4) p1.toNatClampNeg (gX s1 0)) → (vp_in p2 48 ∧ (vp_in p1 310 ∧ (wp_MO_enter (gA s18 2 p2.toNatClampNeg) (gA s18 12 p1.toNatClampNeg) s18 (fun s20 => Q s20))))))) ∧ (¬ (gA σ 13 p1.toNatClampNeg) = 1 → (vp_in p2 48 ∧ (((gA s1 0 p2.toNatClampNeg) = 2 → (vp_in p1 310 ∧ (wp_MO_round (gD s1 4 p1.toNatClampNeg) s1 (fun r5 s6 => (wp_MO_round (gX s6 0) s6 (fun r7 s8 => (wp_MO_place r5 r7 s8 (fun r9 s10 => ((0 ≤ r9 → (vp_in r9 25 ∧ (wp_MO_end (gD s10 1 r9.toNatClampNeg) s10 (fun s13 => Q s13)))) ∧ (¬ 0 ≤ r9 → (wp_MO_wrong 3 s10 (fun s15 => Q s15)))))))))))) ∧ (¬ (gA s1 0 p2.toNatClampNeg) = 2 → (vp_in p2 48 ∧ (vp_in p1 310 ∧ (wp_MO_sum (gA s1 0 p2.toNatClampNeg) (gD s1 4 p1.toNatClampNeg) (gX s1 0) s1 (fun s17 => Q s17)))))))))))))))
set_option maxHeartbeats 4000000 in
set_option maxRecDepth 100000 in
theorem c_MO_pair {l : Launch} {D : va_G} {cs : CI} {am : Nat → Nat} (hi : aI am 25) {p1 : Int32} {p2 : Int32} {σ : CS} {Q : CS → Prop} (hq : wp_MO_pair p1 p2 σ Q) : Met l y_MO_pair (.code y_MO_pair b_MO_pair 5 none :: wC) ({ frames := 2, cells := 0, slots := 0, locals := 56 }) (va_Pc [.ref (am 0), .int p1, .int p2] (mP D cs am σ)) (va_Qv Q (mP D cs am) (aK am 25)) 0 0 (aK am 25) := by
  refine Met.ofW (cc := b_MO_pair) (maxL := 5) (ret := none) (by decide) rfl ?_
  intro p e s m args below meth c s₁ B hml hv
  obtain ⟨rfl, hP, hK, hN⟩ := hv
  have hx := B.exec
  have hb := B.bytes
  have hr := B.returns
  have hts := atoms_spec (ws := .code y_MO_pair b_MO_pair 5 none :: wC) B.pre
  have ht : ∀ w ∈ wC, w.before _ s = true := fun w h => hts w (List.mem_cons_of_mem _ h)
  have hown : s.vm.findClass R_MO = some m.cls := findClass_of_methodNamed B.named
  have hlocks := B.notSynchronized
  have hS : va_S (aK am 25) s.heap s.heap [] := va_S.rf
  have hl := lv_entry ([.ref (am 0), .int p1, .int p2]) (n := 5) (Nat.le_of_ble_eq_true rfl)
  rw [lg_entry_eq]
  generalize (lg_sl ([.ref (am 0), .int p1, .int p2]) ++ List.replicate (5 - (lg_sl ([.ref (am 0), .int p1, .int p2])).length) Slot.unset).toArray = ls at hl ⊢
  have hl : lv_has ls 5 [(0, .ref (am 0)), (1, .int p1), (2, .int p2)] := hl
  unfold wp_MO_pair at hq
  have hh8 : 8 < 9 := by decide
  refine lv_aload_n hx hb d_MO_pair_0 rfl (lv_at hl 0 rfl) ?_
  refine cw_get (C := R_MO) (T := F_MO) (N := 39) (v := .ref (am 18)) hx hb hts (in_MO _) hown hK hP 0 (by decide) rfl rfl 25 (by decide) (ht _ wC_707) rfl d_MO_pair_1 ?_
  refine lv_iload_n hx hb d_MO_pair_4 rfl (lv_at hl 1 rfl) ?_
  refine cw_iald hx hb hK hP 18 (by decide) rfl 0 rfl hq.1 d_MO_pair_5 ?_
  have hq := hq.2
  refine lv_istore_n (lv' := [(3, .int (gA σ 13 p1.toNatClampNeg)), (0, .ref (am 0)), (1, .int p1), (2, .int p2)]) hx hb d_MO_pair_6 rfl hl (by decide) rfl (fun ls hl => ?_)
  refine lv_aload_n hx hb d_MO_pair_7 rfl (lv_at hl 1 rfl) ?_
  refine cw_get (C := R_MO) (T := F_MO) (N := 39) (v := .ref (am 18)) hx hb hts (in_MO _) hown hK hP 0 (by decide) rfl rfl 25 (by decide) (ht _ wC_707) rfl d_MO_pair_8 ?_
  refine lv_iload_n hx hb d_MO_pair_11 rfl (lv_at hl 2 rfl) ?_
  refine lv_dup2_11 hx hb d_MO_pair_12 rfl rfl ?_
  refine cw_iald hx hb hK hP 18 (by decide) rfl 0 rfl hq.1 d_MO_pair_13 ?_
  have hq := hq.2
  refine lv_iconst (v := 1) hx hb d_MO_pair_14 (by decide) ?_
  refine lv_iadd hx hb d_MO_pair_15 ?_
  refine cw_iast hx hb hK hP hi hS 18 (by decide) rfl 0 rfl hq.1 mpa_13 d_MO_pair_16 (fun H locs hP hS => ?_)
  have hq := hq.2
  obtain ⟨s1, e_s1⟩ : ∃ z, z = sA σ 13 (upd (gA σ 13) p1.toNatClampNeg ((gA σ 13 p1.toNatClampNeg) + 1)) := ⟨_, rfl⟩
  rw [← e_s1] at hP
  have hq := hq s1 e_s1
  refine lv_iload_n hx hb d_MO_pair_17 rfl (lv_at hl 0 rfl) ?_
  refine lv_if_ne (tgt := 40) hx hb d_MO_pair_18 (by decide) (fun c2 => ?_) (fun c2 => ?_)
  · have hq := hq.2 c2
    refine lv_iload_n hx hb d_MO_pair_40 rfl (lv_at hl 0 rfl) ?_
    refine lv_iconst (v := 1) hx hb d_MO_pair_41 (by decide) ?_
    refine lv_icmp_ne (tgt := 74) hx hb d_MO_pair_42 (by decide) (fun c3 => ?_) (fun c3 => ?_)
    · have hq := hq.2 c3
      refine lv_aload_n hx hb d_MO_pair_74 rfl (lv_at hl 1 rfl) ?_
      refine cw_get (C := R_MO) (T := F_MO) (N := 39) (v := .ref (am 1)) hx hb hts (in_MO _) hown hK hP 0 (by decide) rfl rfl 0 (by decide) (ht _ wC_682) rfl d_MO_pair_75 ?_
      refine lv_iload_n hx hb d_MO_pair_78 rfl (lv_at hl 3 rfl) ?_
      refine cw_iald hx hb hK hP 1 (by decide) rfl 0 rfl hq.1 d_MO_pair_79 ?_
      have hq := hq.2
      refine lv_iconst (v := 2) hx hb d_MO_pair_80 (by decide) ?_
      refine lv_icmp_eq (tgt := 107) hx hb d_MO_pair_81 (by decide) (fun c4 => ?_) (fun c4 => ?_)
      · have hq := hq.1 c4
        refine lv_aload_n hx hb d_MO_pair_107 rfl (lv_at hl 1 rfl) ?_
        refine lv_aload_n hx hb d_MO_pair_108 rfl (lv_at hl 1 rfl) ?_
        refine cw_get (C := R_MO) (T := F_MO) (N := 39) (v := .ref (am 23)) hx hb hts (in_MO _) hown hK hP 0 (by decide) rfl rfl 30 (by decide) (ht _ wC_712) rfl d_MO_pair_109 ?_
        refine lv_iload_n hx hb d_MO_pair_112 rfl (lv_at hl 2 rfl) ?_
        refine cw_dald hx hb hK hP 23 (by decide) rfl 1 rfl hq.1 d_MO_pair_113 ?_
        have hq := hq.2
        refine va_calld (va_runS (As := [.double (gD s1 4 p1.toNatClampNeg)]) (rest := [.ref (am 0)]) ⟨hx, hb, hml, hown, hts⟩ (c_MO_round (D := D) (cs := cs) hi hq) (va_cwS 1 hts (good_S wC_843 wC_844 wC_50 wC_845) rfl rfl rfl (by decide +kernel) ⟨(show 0 + 1 ≤ 2 by omega), (show 8 + (6 + 11) + 0 ≤ 56 by omega)⟩) ⟨mP_blind, fun U hU hW => ⟨rfl, by rw [hU]; exact hP, va_K.moved hW.alike hK, hN.warm hW⟩⟩ rfl rfl hl.1 rfl (lv_room (Nat.le_of_ble_eq_true rfl)) d_MO_pair_114 ⟨Nat.le_of_ble_eq_true rfl, Nat.le_of_ble_eq_true rfl⟩) hS (fun q _ h => h) (fun q h => h) (fun r5 s6 t H locs ht0 hvm hq hB hz1 hk1 hS => ?_)
        obtain ⟨hP, -, -⟩ := hB
        rw [ht0] at hP
        refine lv_aload_n hx hb d_MO_pair_117 rfl (lv_at hl 1 rfl) ?_
        refine cw_get (C := R_MO) (T := F_MO) (N := 39) (v := .double (gX s6 0)) hx hb hts (in_MO _) hown hK hP 0 (by decide) rfl rfl 38 (by decide) (ht _ wC_720) rfl d_MO_pair_118 ?_
        refine va_calld (va_runS (As := [.double (gX s6 0)]) (rest := [.double r5, .ref (am 0)]) ⟨hx, hb, hml, hown, hts⟩ (c_MO_round (D := D) (cs := cs) hi hq) (va_cwS 1 hts (good_S wC_843 wC_844 wC_50 wC_845) rfl rfl rfl (by decide +kernel) ⟨(show 0 + 1 ≤ 2 by omega), (show 8 + (6 + 11) + 0 ≤ 56 by omega)⟩) ⟨mP_blind, fun U hU hW => ⟨rfl, by rw [hU]; exact hP, va_K.moved hW.alike hK, hN.warm hW⟩⟩ rfl rfl hl.1 rfl (lv_room (Nat.le_of_ble_eq_true rfl)) d_MO_pair_121 ⟨Nat.le_of_ble_eq_true rfl, Nat.le_of_ble_eq_true rfl⟩) hS (fun q _ h => h) (fun q h => h) (fun r7 s8 t H locs ht0 hvm hq hB hz1 hk1 hS => ?_)
        obtain ⟨hP, -, -⟩ := hB
        rw [ht0] at hP
        refine va_calli (va_runV (As := [.double r5, .double r7]) (rest := []) ⟨hx, hb, hml, hown, hts⟩ (c_MO_place (D := D) (cs := cs) hi hq) (cwV 2 hts (good_V wC_903 wC_905 wC_38 wC_50 wC_906) rfl rfl rfl (by decide +kernel) ⟨(show 0 + 1 ≤ 2 by omega), (show 8 + (5 + 11) + 0 ≤ 56 by omega)⟩) ⟨mP_blind, va_recv hK hP (ci := 5) (q0 := 0) rfl (wd_at (by decide) rfl), fun U hU hW => ⟨rfl, by rw [hU]; exact hP, va_K.moved hW.alike hK, hN.warm hW⟩⟩ rfl rfl hl.1 rfl (lv_room (Nat.le_of_ble_eq_true rfl)) d_MO_pair_124 ⟨Nat.le_of_ble_eq_true rfl, Nat.le_of_ble_eq_true rfl⟩) hS (fun q _ h => h) (fun q h => h) (fun r9 s10 t H locs ht0 hvm hq hB hz1 hk1 hS => ?_)
        obtain ⟨hP, -, -⟩ := hB
        rw [ht0] at hP
        refine lv_istore (lv' := [(4, .int r9), (3, .int (gA σ 13 p1.toNatClampNeg)), (0, .ref (am 0)), (1, .int p1), (2, .int p2)]) hx hb d_MO_pair_127 hl (by decide) rfl (fun ls hl => ?_)
        refine lv_iload hx hb d_MO_pair_129 (lv_at hl 0 rfl) ?_
        refine lv_if_ge (tgt := 142) hx hb d_MO_pair_131 (by decide) (fun c11 => ?_) (fun c11 => ?_)
        · have hq := hq.1 c11
          refine lv_aload_n hx hb d_MO_pair_142 rfl (lv_at hl 2 rfl) ?_
          refine lv_aload_n hx hb d_MO_pair_143 rfl (lv_at hl 2 rfl) ?_
          refine cw_get (C := R_MO) (T := F_MO) (N := 39) (v := .ref (am 9)) hx hb hts (in_MO _) hown hK hP 0 (by decide) rfl rfl 8 (by decide) (ht _ wC_690) rfl d_MO_pair_144 ?_
          refine lv_iload hx hb d_MO_pair_147 (lv_at hl 0 rfl) ?_
          refine cw_dald hx hb hK hP 9 (by decide) rfl 1 rfl hq.1 d_MO_pair_149 ?_
          have hq := hq.2
          refine va_callv (va_runV (As := [.double (gD s10 1 r9.toNatClampNeg)]) (rest := []) ⟨hx, hb, hml, hown, hts⟩ (c_MO_end (D := D) (cs := cs) hi hq) (cwV 1 hts (good_V wC_864 wC_866 wC_29 wC_50 wC_867) rfl rfl rfl (by decide +kernel) ⟨(show 0 + 1 ≤ 2 by omega), (show 8 + (3 + 11) + 0 ≤ 56 by omega)⟩) ⟨mP_blind, va_recv hK hP (ci := 5) (q0 := 0) rfl (wd_at (by decide) rfl), fun U hU hW => ⟨rfl, by rw [hU]; exact hP, va_K.moved hW.alike hK, hN.warm hW⟩⟩ rfl rfl hl.1 rfl (lv_room (Nat.le_of_ble_eq_true rfl)) d_MO_pair_150 ⟨Nat.le_of_ble_eq_true rfl, Nat.le_of_ble_eq_true rfl⟩) hS (fun q _ h => h) (fun q h => h) (fun s13 t H locs ht0 hvm hq hB hz1 hk1 hS => ?_)
          obtain ⟨hP, -, -⟩ := hB
          rw [ht0] at hP
          exact W.vret hx hb hr (fun t ht hW => ⟨⟨s13, rfl, hq, by rw [ht]; exact hP, va_K.moved hW.alike hK, hN.warm hW⟩, hS.F ht⟩) hS.2.2 d_MO_pair_153
        · have hq := hq.2 c11
          refine lv_aload_n hx hb d_MO_pair_134 rfl (lv_at hl 2 rfl) ?_
          refine lv_iconst (v := 3) hx hb d_MO_pair_135 (by decide) ?_
          refine va_callv (va_runV (As := [.int 3]) (rest := []) ⟨hx, hb, hml, hown, hts⟩ (c_MO_wrong (D := D) (cs := cs) hi hq) (cwV 1 hts (good_V wC_855 wC_857 wC_27 wC_50 wC_858) rfl rfl rfl (by decide +kernel) ⟨(show 0 + 1 ≤ 2 by omega), (show 8 + (2 + 11) + 0 ≤ 56 by omega)⟩) ⟨mP_blind, va_recv hK hP (ci := 5) (q0 := 0) rfl (wd_at (by decide) rfl), fun U hU hW => ⟨rfl, by rw [hU]; exact hP, va_K.moved hW.alike hK, hN.warm hW⟩⟩ rfl rfl hl.1 rfl (lv_room (Nat.le_of_ble_eq_true rfl)) d_MO_pair_136 ⟨Nat.le_of_ble_eq_true rfl, Nat.le_of_ble_eq_true rfl⟩) hS (fun q _ h => h) (fun q h => h) (fun s15 t H locs ht0 hvm hq hB hz1 hk1 hS => ?_)
          obtain ⟨hP, -, -⟩ := hB
          rw [ht0] at hP
          refine lv_goto (tgt := 153) hx hb d_MO_pair_139 (by decide) ?_
          exact W.vret hx hb hr (fun t ht hW => ⟨⟨s15, rfl, hq, by rw [ht]; exact hP, va_K.moved hW.alike hK, hN.warm hW⟩, hS.F ht⟩) hS.2.2 d_MO_pair_153
      · have hq := hq.2 c4
        refine lv_aload_n hx hb d_MO_pair_84 rfl (lv_at hl 1 rfl) ?_
        refine lv_aload_n hx hb d_MO_pair_85 rfl (lv_at hl 1 rfl) ?_
        refine cw_get (C := R_MO) (T := F_MO) (N := 39) (v := .ref (am 1)) hx hb hts (in_MO _) hown hK hP 0 (by decide) rfl rfl 0 (by decide) (ht _ wC_682) rfl d_MO_pair_86 ?_
        refine lv_iload_n hx hb d_MO_pair_89 rfl (lv_at hl 3 rfl) ?_
        refine cw_iald hx hb hK hP 1 (by decide) rfl 0 rfl hq.1 d_MO_pair_90 ?_
        have hq := hq.2
        refine lv_aload_n hx hb d_MO_pair_91 rfl (lv_at hl 1 rfl) ?_
        refine cw_get (C := R_MO) (T := F_MO) (N := 39) (v := .ref (am 23)) hx hb hts (in_MO _) hown hK hP 0 (by decide) rfl rfl 30 (by decide) (ht _ wC_712) rfl d_MO_pair_92 ?_
        refine lv_iload_n hx hb d_MO_pair_95 rfl (lv_at hl 2 rfl) ?_
        refine cw_dald hx hb hK hP 23 (by decide) rfl 1 rfl hq.1 d_MO_pair_96 ?_
        have hq := hq.2
        refine lv_aload_n hx hb d_MO_pair_97 rfl (lv_at hl 1 rfl) ?_
        refine cw_get (C := R_MO) (T := F_MO) (N := 39) (v := .double (gX s1 0)) hx hb hts (in_MO _) hown hK hP 0 (by decide) rfl rfl 38 (by decide) (ht _ wC_720) rfl d_MO_pair_98 ?_
        refine va_callv (va_runV (As := [.int (gA s1 0 p2.toNatClampNeg), .double (gD s1 4 p1.toNatClampNeg), .double (gX s1 0)]) (rest := []) ⟨hx, hb, hml, hown, hts⟩ (c_MO_sum (D := D) (cs := cs) hi hq) (cwV 3 hts (good_V wC_919 wC_921 wC_42 wC_50 wC_922) rfl rfl rfl (by decide +kernel) ⟨(show 1 + 1 ≤ 2 by omega), (show 8 + (12 + 11) + 25 ≤ 56 by omega)⟩) ⟨mP_blind, va_recv hK hP (ci := 5) (q0 := 0) rfl (wd_at (by decide) rfl), fun U hU hW => ⟨rfl, by rw [hU]; exact hP, va_K.moved hW.alike hK, hN.warm hW⟩⟩ rfl rfl hl.1 rfl (lv_room (Nat.le_of_ble_eq_true rfl)) d_MO_pair_101 ⟨Nat.le_of_ble_eq_true rfl, Nat.le_of_ble_eq_true rfl⟩) hS (fun q _ h => h) (fun q h => h) (fun s17 t H locs ht0 hvm hq hB hz1 hk1 hS => ?_)
        obtain ⟨hP, -, -⟩ := hB
        rw [ht0] at hP
        refine lv_goto (tgt := 153) hx hb d_MO_pair_104 (by decide) ?_
        exact W.vret hx hb hr (fun t ht hW => ⟨⟨s17, rfl, hq, by rw [ht]; exact hP, va_K.moved hW.alike hK, hN.warm hW⟩, hS.F ht⟩) hS.2.2 d_MO_pair_153
    · have hq := hq.1 c3
      refine lv_aload_n hx hb d_MO_pair_45 rfl (lv_at hl 1 rfl) ?_
      refine cw_get (C := R_MO) (T := F_MO) (N := 39) (v := .ref (am 23)) hx hb hts (in_MO _) hown hK hP 0 (by decide) rfl rfl 30 (by decide) (ht _ wC_712) rfl d_MO_pair_46 ?_
      refine lv_iload_n hx hb d_MO_pair_49 rfl (lv_at hl 2 rfl) ?_
      refine lv_aload_n hx hb d_MO_pair_50 rfl (lv_at hl 1 rfl) ?_
      refine cw_get (C := R_MO) (T := F_MO) (N := 39) (v := .double (gX s1 0)) hx hb hts (in_MO _) hown hK hP 0 (by decide) rfl rfl 38 (by decide) (ht _ wC_720) rfl d_MO_pair_51 ?_
      refine cw_dast hx hb hK hP hi hS 23 (by decide) rfl 1 rfl hq.1 mpd_4 d_MO_pair_54 (fun H locs hP hS => ?_)
      have hq := hq.2
      obtain ⟨s18, e_s18⟩ : ∃ z, z = sD s1 4 (vf_upd (gD s1 4) p1.toNatClampNeg (gX s1 0)) := ⟨_, rfl⟩
      rw [← e_s18] at hP
      have hq := hq s18 e_s18
      refine lv_aload_n hx hb d_MO_pair_55 rfl (lv_at hl 1 rfl) ?_
      refine lv_aload_n hx hb d_MO_pair_56 rfl (lv_at hl 1 rfl) ?_
      refine cw_get (C := R_MO) (T := F_MO) (N := 39) (v := .ref (am 3)) hx hb hts (in_MO _) hown hK hP 0 (by decide) rfl rfl 2 (by decide) (ht _ wC_684) rfl d_MO_pair_57 ?_
      refine lv_iload_n hx hb d_MO_pair_60 rfl (lv_at hl 3 rfl) ?_
      refine cw_iald hx hb hK hP 3 (by decide) rfl 0 rfl hq.1 d_MO_pair_61 ?_
      have hq := hq.2
      refine lv_aload_n hx hb d_MO_pair_62 rfl (lv_at hl 1 rfl) ?_
      refine cw_get (C := R_MO) (T := F_MO) (N := 39) (v := .ref (am 17)) hx hb hts (in_MO _) hown hK hP 0 (by decide) rfl rfl 24 (by decide) (ht _ wC_706) rfl d_MO_pair_63 ?_
      refine lv_iload_n hx hb d_MO_pair_66 rfl (lv_at hl 2 rfl) ?_
      refine cw_iald hx hb hK hP 17 (by decide) rfl 0 rfl hq.1 d_MO_pair_67 ?_
      have hq := hq.2
      refine va_callv (va_runV (As := [.int (gA s18 2 p2.toNatClampNeg), .int (gA s18 12 p1.toNatClampNeg)]) (rest := []) ⟨hx, hb, hml, hown, hts⟩ (c_MO_enter (D := D) (cs := cs) hi hq) (cwV 2 hts (good_V wC_851 wC_853 wC_26 wC_50 wC_854) rfl rfl rfl (by decide +kernel) ⟨(show 1 + 1 ≤ 2 by omega), (show 8 + (3 + 11) + 21 ≤ 56 by omega)⟩) ⟨mP_blind, va_recv hK hP (ci := 5) (q0 := 0) rfl (wd_at (by decide) rfl), fun U hU hW => ⟨rfl, by rw [hU]; exact hP, va_K.moved hW.alike hK, hN.warm hW⟩⟩ rfl rfl hl.1 rfl (lv_room (Nat.le_of_ble_eq_true rfl)) d_MO_pair_68 ⟨Nat.le_of_ble_eq_true rfl, Nat.le_of_ble_eq_true rfl⟩) hS (fun q _ h => h) (fun q h => h) (fun s20 t H locs ht0 hvm hq hB hz1 hk1 hS => ?_)
      obtain ⟨hP, -, -⟩ := hB
      rw [ht0] at hP
      refine lv_goto (tgt := 153) hx hb d_MO_pair_71 (by decide) ?_
      exact W.vret hx hb hr (fun t ht hW => ⟨⟨s20, rfl, hq, by rw [ht]; exact hP, va_K.moved hW.alike hK, hN.warm hW⟩, hS.F ht⟩) hS.2.2 d_MO_pair_153
  · have hq := hq.1 c2
    refine lv_aload_n hx hb d_MO_pair_21 rfl (lv_at hl 1 rfl) ?_
    refine lv_aload_n hx hb d_MO_pair_22 rfl (lv_at hl 1 rfl) ?_
    refine cw_get (C := R_MO) (T := F_MO) (N := 39) (v := .ref (am 2)) hx hb hts (in_MO _) hown hK hP 0 (by decide) rfl rfl 1 (by decide) (ht _ wC_683) rfl d_MO_pair_23 ?_
    refine lv_iload_n hx hb d_MO_pair_26 rfl (lv_at hl 3 rfl) ?_
    refine cw_iald hx hb hK hP 2 (by decide) rfl 0 rfl hq.1 d_MO_pair_27 ?_
    have hq := hq.2
    refine lv_aload_n hx hb d_MO_pair_28 rfl (lv_at hl 1 rfl) ?_
    refine cw_get (C := R_MO) (T := F_MO) (N := 39) (v := .ref (am 17)) hx hb hts (in_MO _) hown hK hP 0 (by decide) rfl rfl 24 (by decide) (ht _ wC_706) rfl d_MO_pair_29 ?_
    refine lv_iload_n hx hb d_MO_pair_32 rfl (lv_at hl 2 rfl) ?_
    refine cw_iald hx hb hK hP 17 (by decide) rfl 0 rfl hq.1 d_MO_pair_33 ?_
    have hq := hq.2
    refine va_callv (va_runV (As := [.int (gA s1 1 p2.toNatClampNeg), .int (gA s1 12 p1.toNatClampNeg)]) (rest := []) ⟨hx, hb, hml, hown, hts⟩ (c_MO_enter (D := D) (cs := cs) hi hq) (cwV 2 hts (good_V wC_851 wC_853 wC_26 wC_50 wC_854) rfl rfl rfl (by decide +kernel) ⟨(show 1 + 1 ≤ 2 by omega), (show 8 + (3 + 11) + 21 ≤ 56 by omega)⟩) ⟨mP_blind, va_recv hK hP (ci := 5) (q0 := 0) rfl (wd_at (by decide) rfl), fun U hU hW => ⟨rfl, by rw [hU]; exact hP, va_K.moved hW.alike hK, hN.warm hW⟩⟩ rfl rfl hl.1 rfl (lv_room (Nat.le_of_ble_eq_true rfl)) d_MO_pair_34 ⟨Nat.le_of_ble_eq_true rfl, Nat.le_of_ble_eq_true rfl⟩) hS (fun q _ h => h) (fun q h => h) (fun s22 t H locs ht0 hvm hq hB hz1 hk1 hS => ?_)
    obtain ⟨hP, -, -⟩ := hB
    rw [ht0] at hP
    refine lv_goto (tgt := 153) hx hb d_MO_pair_37 (by decide) ?_
    exact W.vret hx hb hr (fun t ht hW => ⟨⟨s22, rfl, hq, by rw [ht]; exact hP, va_K.moved hW.alike hK, hN.warm hW⟩, hS.F ht⟩) hS.2.2 d_MO_pair_153
def wp_MO_isThere (p1 : Int32) (p2 : Int32) (σ : CS) (Q : Int32 → CS → Prop) : Prop := ((p1 ≤ 0 → Q 0 σ) ∧ (¬ p1 ≤ 0 → (vp_in p1 10 ∧ (((gA σ 9 p1.toNatClampNeg) ≤ p2 → Q 0 σ) ∧ (¬ (gA σ 9 p1.toNatClampNeg) ≤ p2 → Q 1 σ)))))
set_option maxHeartbeats 4000000 in
set_option maxRecDepth 100000 in
theorem c_MO_isThere {l : Launch} {D : va_G} {cs : CI} {am : Nat → Nat} (hi : aI am 25) {p1 : Int32} {p2 : Int32} {σ : CS} {Q : Int32 → CS → Prop} (hq : wp_MO_isThere p1 p2 σ Q) : Met l y_MO_isThere (.code y_MO_isThere b_MO_isThere 3 (some .boolean) :: wC) ({ frames := 0, cells := 0, slots := 0, locals := 0 }) (va_Pc [.ref (am 0), .int p1, .int p2] (mP D cs am σ)) (va_Qi Q (mP D cs am) (aK am 25)) 0 0 (aK am 25) := by
  refine Met.ofW (cc := b_MO_isThere) (maxL := 3) (ret := (some .boolean)) (by decide) rfl ?_
  intro p e s m args below meth c s₁ B hml hv
  obtain ⟨rfl, hP, hK, hN⟩ := hv
  have hx := B.exec
  have hb := B.bytes
  have hr := B.returns
  have hts := atoms_spec (ws := .code y_MO_isThere b_MO_isThere 3 (some .boolean) :: wC) B.pre
  have ht : ∀ w ∈ wC, w.before _ s = true := fun w h => hts w (List.mem_cons_of_mem _ h)
  have hown : s.vm.findClass R_MO = some m.cls := findClass_of_methodNamed B.named
  have hlocks := B.notSynchronized
  have hS : va_S (aK am 25) s.heap s.heap [] := va_S.rf
  have hl := lv_entry ([.ref (am 0), .int p1, .int p2]) (n := 3) (Nat.le_of_ble_eq_true rfl)
  rw [lg_entry_eq]
  generalize (lg_sl ([.ref (am 0), .int p1, .int p2]) ++ List.replicate (3 - (lg_sl ([.ref (am 0), .int p1, .int p2])).length) Slot.unset).toArray = ls at hl ⊢
  have hl : lv_has ls 3 [(0, .ref (am 0)), (1, .int p1), (2, .int p2)] := hl
  unfold wp_MO_isThere at hq
  have hh8 : 8 < 9 := by decide
  refine lv_iload_n hx hb d_MO_isThere_0 rfl (lv_at hl 1 rfl) ?_
  refine lv_if_le (tgt := 18) hx hb d_MO_isThere_1 (by decide) (fun c1 => ?_) (fun c1 => ?_)
  · have hq := hq.1 c1
    refine lv_iconst (v := 0) hx hb d_MO_isThere_18 (by decide) ?_
    exact W.zret hx hb hr rfl (fun t ht hW => ⟨⟨0, σ, rfl, hq, by rw [ht]; exact hP, va_K.moved hW.alike hK, hN.warm hW⟩, hS.F ht⟩) hS.2.2 d_MO_isThere_19
  · have hq := hq.2 c1
    refine lv_iload_n hx hb d_MO_isThere_4 rfl (lv_at hl 2 rfl) ?_
    refine lv_aload_n hx hb d_MO_isThere_5 rfl (lv_at hl 0 rfl) ?_
    refine cw_get (C := R_MO) (T := F_MO) (N := 39) (v := .ref (am 12)) hx hb hts (in_MO _) hown hK hP 0 (by decide) rfl rfl 17 (by decide) (ht _ wC_699) rfl d_MO_isThere_6 ?_
    refine lv_iload_n hx hb d_MO_isThere_9 rfl (lv_at hl 1 rfl) ?_
    refine cw_iald hx hb hK hP 12 (by decide) rfl 0 rfl hq.1 d_MO_isThere_10 ?_
    have hq := hq.2
    refine lv_icmp_ge (tgt := 18) hx hb d_MO_isThere_11 (by decide) (fun c2 => ?_) (fun c2 => ?_)
    · have hq := hq.1 c2
      refine lv_iconst (v := 0) hx hb d_MO_isThere_18 (by decide) ?_
      exact W.zret hx hb hr rfl (fun t ht hW => ⟨⟨0, σ, rfl, hq, by rw [ht]; exact hP, va_K.moved hW.alike hK, hN.warm hW⟩, hS.F ht⟩) hS.2.2 d_MO_isThere_19
    · have hq := hq.2 c2
      refine lv_iconst (v := 1) hx hb d_MO_isThere_14 (by decide) ?_
      refine lv_goto (tgt := 19) hx hb d_MO_isThere_15 (by decide) ?_
      exact W.zret hx hb hr rfl (fun t ht hW => ⟨⟨1, σ, rfl, hq, by rw [ht]; exact hP, va_K.moved hW.alike hK, hN.warm hW⟩, hS.F ht⟩) hS.2.2 d_MO_isThere_19
def wp_MO_isName (p1 : Int32) (p2 : Int32) (σ : CS) (Q : Int32 → CS → Prop) : Prop := (vp_in p1 10 ∧ (((((gA σ 10 p1.toNatClampNeg) >>> (p2 &&& 31)) &&& 1) = 1 → Q 1 σ) ∧ (¬ (((gA σ 10 p1.toNatClampNeg) >>> (p2 &&& 31)) &&& 1) = 1 → Q 0 σ)))
set_option maxHeartbeats 4000000 in
set_option maxRecDepth 100000 in
theorem c_MO_isName {l : Launch} {D : va_G} {cs : CI} {am : Nat → Nat} (hi : aI am 25) {p1 : Int32} {p2 : Int32} {σ : CS} {Q : Int32 → CS → Prop} (hq : wp_MO_isName p1 p2 σ Q) : Met l y_MO_isName (.code y_MO_isName b_MO_isName 3 (some .boolean) :: wC) ({ frames := 0, cells := 0, slots := 0, locals := 0 }) (va_Pc [.ref (am 0), .int p1, .int p2] (mP D cs am σ)) (va_Qi Q (mP D cs am) (aK am 25)) 0 0 (aK am 25) := by
  refine Met.ofW (cc := b_MO_isName) (maxL := 3) (ret := (some .boolean)) (by decide) rfl ?_
  intro p e s m args below meth c s₁ B hml hv
  obtain ⟨rfl, hP, hK, hN⟩ := hv
  have hx := B.exec
  have hb := B.bytes
  have hr := B.returns
  have hts := atoms_spec (ws := .code y_MO_isName b_MO_isName 3 (some .boolean) :: wC) B.pre
  have ht : ∀ w ∈ wC, w.before _ s = true := fun w h => hts w (List.mem_cons_of_mem _ h)
  have hown : s.vm.findClass R_MO = some m.cls := findClass_of_methodNamed B.named
  have hlocks := B.notSynchronized
  have hS : va_S (aK am 25) s.heap s.heap [] := va_S.rf
  have hl := lv_entry ([.ref (am 0), .int p1, .int p2]) (n := 3) (Nat.le_of_ble_eq_true rfl)
  rw [lg_entry_eq]
  generalize (lg_sl ([.ref (am 0), .int p1, .int p2]) ++ List.replicate (3 - (lg_sl ([.ref (am 0), .int p1, .int p2])).length) Slot.unset).toArray = ls at hl ⊢
  have hl : lv_has ls 3 [(0, .ref (am 0)), (1, .int p1), (2, .int p2)] := hl
  unfold wp_MO_isName at hq
  have hh8 : 8 < 9 := by decide
  refine lv_aload_n hx hb d_MO_isName_0 rfl (lv_at hl 0 rfl) ?_
  refine cw_get (C := R_MO) (T := F_MO) (N := 39) (v := .ref (am 13)) hx hb hts (in_MO _) hown hK hP 0 (by decide) rfl rfl 18 (by decide) (ht _ wC_700) rfl d_MO_isName_1 ?_
  refine lv_iload_n hx hb d_MO_isName_4 rfl (lv_at hl 1 rfl) ?_
  refine cw_iald hx hb hK hP 13 (by decide) rfl 0 rfl hq.1 d_MO_isName_5 ?_
  have hq := hq.2
  refine lv_iload_n hx hb d_MO_isName_6 rfl (lv_at hl 2 rfl) ?_
  refine lv_ishr hx hb d_MO_isName_7 ?_
  refine lv_iconst (v := 1) hx hb d_MO_isName_8 (by decide) ?_
  refine lv_iand hx hb d_MO_isName_9 ?_
  refine lv_iconst (v := 1) hx hb d_MO_isName_10 (by decide) ?_
  refine lv_icmp_ne (tgt := 18) hx hb d_MO_isName_11 (by decide) (fun c1 => ?_) (fun c1 => ?_)
  · have hq := hq.2 c1
    refine lv_iconst (v := 0) hx hb d_MO_isName_18 (by decide) ?_
    exact W.zret hx hb hr rfl (fun t ht hW => ⟨⟨0, σ, rfl, hq, by rw [ht]; exact hP, va_K.moved hW.alike hK, hN.warm hW⟩, hS.F ht⟩) hS.2.2 d_MO_isName_19
  · have hq := hq.1 c1
    refine lv_iconst (v := 1) hx hb d_MO_isName_14 (by decide) ?_
    refine lv_goto (tgt := 19) hx hb d_MO_isName_15 (by decide) ?_
    exact W.zret hx hb hr rfl (fun t ht hW => ⟨⟨1, σ, rfl, hq, by rw [ht]; exact hP, va_K.moved hW.alike hK, hN.warm hW⟩, hS.F ht⟩) hS.2.2 d_MO_isName_19
def wp_MO_parameter (p1 : Int32) (p2 : Int32) (σ : CS) (Q : CS → Prop) : Prop := (vp_in p1 310 ∧ (vp_in p1 310 ∧ (((gA σ 13 p1.toNatClampNeg) ≤ 0 → (wp_MO_isThere (gA σ 12 p1.toNatClampNeg) p2 σ (fun r2 s3 => ((r2 = 0 → (wp_MO_wrong 4 s3 (fun s20 => Q s20))) ∧ (¬ r2 = 0 → (wp_MO_isName (gA σ 12 p1.toNatClampNeg) p2 s3 (fun r5 s6 => ((r5 = 0 → (vp_in ((2 * (gA σ 12 p1.toNatClampNeg)) + p2) 20 ∧ (wp_MO_end (gD s6 2 (((2 * (gA σ 12 p1.toNatClampNeg)) + p2).toNatClampNeg)) s6 (fun s18 => Q s18)))) ∧ (¬ r5 = 0 → (vp_in ((2 * (gA σ 12 p1.toNatClampNeg)) + p2) 20 ∧ ((0 ≤ (gA s6 7 (((2 * (gA σ 12 p1.toNatClampNeg)) + p2).toNatClampNeg)) → (vp_in p1 310 ∧ (∀ s9 : CS, s9 = sA s6 13 (upd (gA s6 13) p1.toNatClampNeg 1) → (wp_MO_deeper  s9 (fun s11 => (((gI s11 10) = 0 → (vp_in ((2 * (gA σ 12 p1.toNatClampNeg)) + p2) 20 ∧ (vp_in ((2 * (gA σ 12 p1.toNatClampNeg)) + p2) 20 ∧ (wp_MO_enter (gA s11 7 (((2 * (gA σ 12 p1.toNatClampNeg)) + p2).toNatClampNeg)) (gA s11 8 (((2 * (gA σ 12 p1.toNatClampNeg)) + p2).toNatClampNeg)) s11 (fun s14 => Q s14))))) ∧ (¬ (gI s11 10) = 0 → Q s11))))))) ∧ (¬ 0 ≤ (gA s6 7 (((2 * (gA σ 12 p1.toNatClampNeg)) + p2).toNatClampNeg)) → (wp_MO_wrong 4 s6 (fun s16 => Q s16)))))))))))))) ∧ (¬ (gA σ 13 p1.toNatClampNeg) ≤ 0 → (wp_MO_end (gX σ 0) σ (fun s22 => Q s22))))))
set_option maxHeartbeats 4000000 in
set_option maxRecDepth 100000 in
theorem c_MO_parameter {l : Launch} {D : va_G} {cs : CI} {am : Nat → Nat} (hi : aI am 25) {p1 : Int32} {p2 : Int32} {σ : CS} {Q : CS → Prop} (hq : wp_MO_parameter p1 p2 σ Q) : Met l y_MO_parameter (.code y_MO_parameter b_MO_parameter 4 none :: wC) ({ frames := 2, cells := 0, slots := 0, locals := 43 }) (va_Pc [.ref (am 0), .int p1, .int p2] (mP D cs am σ)) (va_Qv Q (mP D cs am) (aK am 25)) 0 0 (aK am 25) := by
  refine Met.ofW (cc := b_MO_parameter) (maxL := 4) (ret := none) (by decide) rfl ?_
  intro p e s m args below meth c s₁ B hml hv
  obtain ⟨rfl, hP, hK, hN⟩ := hv
  have hx := B.exec
  have hb := B.bytes
  have hr := B.returns
  have hts := atoms_spec (ws := .code y_MO_parameter b_MO_parameter 4 none :: wC) B.pre
  have ht : ∀ w ∈ wC, w.before _ s = true := fun w h => hts w (List.mem_cons_of_mem _ h)
  have hown : s.vm.findClass R_MO = some m.cls := findClass_of_methodNamed B.named
  have hlocks := B.notSynchronized
  have hS : va_S (aK am 25) s.heap s.heap [] := va_S.rf
  have hl := lv_entry ([.ref (am 0), .int p1, .int p2]) (n := 4) (Nat.le_of_ble_eq_true rfl)
  rw [lg_entry_eq]
  generalize (lg_sl ([.ref (am 0), .int p1, .int p2]) ++ List.replicate (4 - (lg_sl ([.ref (am 0), .int p1, .int p2])).length) Slot.unset).toArray = ls at hl ⊢
  have hl : lv_has ls 4 [(0, .ref (am 0)), (1, .int p1), (2, .int p2)] := hl
  unfold wp_MO_parameter at hq
  have hh8 : 8 < 9 := by decide
  refine lv_aload_n hx hb d_MO_parameter_0 rfl (lv_at hl 0 rfl) ?_
  refine cw_get (C := R_MO) (T := F_MO) (N := 39) (v := .ref (am 17)) hx hb hts (in_MO _) hown hK hP 0 (by decide) rfl rfl 24 (by decide) (ht _ wC_706) rfl d_MO_parameter_1 ?_
  refine lv_iload_n hx hb d_MO_parameter_4 rfl (lv_at hl 1 rfl) ?_
  refine cw_iald hx hb hK hP 17 (by decide) rfl 0 rfl hq.1 d_MO_parameter_5 ?_
  have hq := hq.2
  refine lv_istore_n (lv' := [(3, .int (gA σ 12 p1.toNatClampNeg)), (0, .ref (am 0)), (1, .int p1), (2, .int p2)]) hx hb d_MO_parameter_6 rfl hl (by decide) rfl (fun ls hl => ?_)
  refine lv_aload_n hx hb d_MO_parameter_7 rfl (lv_at hl 1 rfl) ?_
  refine cw_get (C := R_MO) (T := F_MO) (N := 39) (v := .ref (am 18)) hx hb hts (in_MO _) hown hK hP 0 (by decide) rfl rfl 25 (by decide) (ht _ wC_707) rfl d_MO_parameter_8 ?_
  refine lv_iload_n hx hb d_MO_parameter_11 rfl (lv_at hl 2 rfl) ?_
  refine cw_iald hx hb hK hP 18 (by decide) rfl 0 rfl hq.1 d_MO_parameter_12 ?_
  have hq := hq.2
  refine lv_if_le (tgt := 27) hx hb d_MO_parameter_13 (by decide) (fun c1 => ?_) (fun c1 => ?_)
  · have hq := hq.1 c1
    refine lv_aload_n hx hb d_MO_parameter_27 rfl (lv_at hl 1 rfl) ?_
    refine lv_iload_n hx hb d_MO_parameter_28 rfl (lv_at hl 0 rfl) ?_
    refine lv_iload_n hx hb d_MO_parameter_29 rfl (lv_at hl 3 rfl) ?_
    refine va_calli (va_runV (As := [.int (gA σ 12 p1.toNatClampNeg), .int p2]) (rest := []) ⟨hx, hb, hml, hown, hts⟩ (c_MO_isThere (D := D) (cs := cs) hi hq) (cwV 2 hts (good_V wC_872 wC_874 wC_31 wC_50 wC_875) rfl rfl rfl (by decide +kernel) ⟨(show 0 + 1 ≤ 2 by omega), (show 8 + (3 + 11) + 0 ≤ 43 by omega)⟩) ⟨mP_blind, va_recv hK hP (ci := 5) (q0 := 0) rfl (wd_at (by decide) rfl), fun U hU hW => ⟨rfl, by rw [hU]; exact hP, va_K.moved hW.alike hK, hN.warm hW⟩⟩ rfl rfl hl.1 rfl (lv_room (Nat.le_of_ble_eq_true rfl)) d_MO_parameter_30 ⟨Nat.le_of_ble_eq_true rfl, Nat.le_of_ble_eq_true rfl⟩) hS (fun q _ h => h) (fun q h => h) (fun r2 s3 t H locs ht0 hvm hq hB hz1 hk1 hS => ?_)
    obtain ⟨hP, -, -⟩ := hB
    rw [ht0] at hP
    refine lv_if_ne (tgt := 44) hx hb d_MO_parameter_33 (by decide) (fun c4 => ?_) (fun c4 => ?_)
    · have hq := hq.2 c4
      refine lv_aload_n hx hb d_MO_parameter_44 rfl (lv_at hl 1 rfl) ?_
      refine lv_iload_n hx hb d_MO_parameter_45 rfl (lv_at hl 0 rfl) ?_
      refine lv_iload_n hx hb d_MO_parameter_46 rfl (lv_at hl 3 rfl) ?_
      refine va_calli (va_runV (As := [.int (gA σ 12 p1.toNatClampNeg), .int p2]) (rest := []) ⟨hx, hb, hml, hown, hts⟩ (c_MO_isName (D := D) (cs := cs) hi hq) (cwV 2 hts (good_V wC_876 wC_878 wC_32 wC_50 wC_879) rfl rfl rfl (by decide +kernel) ⟨(show 0 + 1 ≤ 2 by omega), (show 8 + (3 + 11) + 0 ≤ 43 by omega)⟩) ⟨mP_blind, va_recv hK hP (ci := 5) (q0 := 0) rfl (wd_at (by decide) rfl), fun U hU hW => ⟨rfl, by rw [hU]; exact hP, va_K.moved hW.alike hK, hN.warm hW⟩⟩ rfl rfl hl.1 rfl (lv_room (Nat.le_of_ble_eq_true rfl)) d_MO_parameter_47 ⟨Nat.le_of_ble_eq_true rfl, Nat.le_of_ble_eq_true rfl⟩) hS (fun q _ h => h) (fun q h => h) (fun r5 s6 t H locs ht0 hvm hq hB hz1 hk1 hS => ?_)
      obtain ⟨hP, -, -⟩ := hB
      rw [ht0] at hP
      refine lv_if_ne (tgt := 70) hx hb d_MO_parameter_50 (by decide) (fun c7 => ?_) (fun c7 => ?_)
      · have hq := hq.2 c7
        refine lv_aload_n hx hb d_MO_parameter_70 rfl (lv_at hl 1 rfl) ?_
        refine cw_get (C := R_MO) (T := F_MO) (N := 39) (v := .ref (am 10)) hx hb hts (in_MO _) hown hK hP 0 (by decide) rfl rfl 15 (by decide) (ht _ wC_697) rfl d_MO_parameter_71 ?_
        refine lv_iconst (v := 2) hx hb d_MO_parameter_74 (by decide) ?_
        refine lv_iload_n hx hb d_MO_parameter_75 rfl (lv_at hl 0 rfl) ?_
        refine lv_imul hx hb d_MO_parameter_76 ?_
        refine lv_iload_n hx hb d_MO_parameter_77 rfl (lv_at hl 3 rfl) ?_
        refine lv_iadd hx hb d_MO_parameter_78 ?_
        refine cw_iald hx hb hK hP 10 (by decide) rfl 0 rfl hq.1 d_MO_parameter_79 ?_
        have hq := hq.2
        refine lv_if_ge (tgt := 91) hx hb d_MO_parameter_80 (by decide) (fun c8 => ?_) (fun c8 => ?_)
        · have hq := hq.1 c8
          refine lv_aload_n hx hb d_MO_parameter_91 rfl (lv_at hl 1 rfl) ?_
          refine cw_get (C := R_MO) (T := F_MO) (N := 39) (v := .ref (am 18)) hx hb hts (in_MO _) hown hK hP 0 (by decide) rfl rfl 25 (by decide) (ht _ wC_707) rfl d_MO_parameter_92 ?_
          refine lv_iload_n hx hb d_MO_parameter_95 rfl (lv_at hl 2 rfl) ?_
          refine lv_iconst (v := 1) hx hb d_MO_parameter_96 (by decide) ?_
          refine cw_iast hx hb hK hP hi hS 18 (by decide) rfl 0 rfl hq.1 mpa_13 d_MO_parameter_97 (fun H locs hP hS => ?_)
          have hq := hq.2
          obtain ⟨s9, e_s9⟩ : ∃ z, z = sA s6 13 (upd (gA s6 13) p1.toNatClampNeg 1) := ⟨_, rfl⟩
          rw [← e_s9] at hP
          have hq := hq s9 e_s9
          refine lv_aload_n hx hb d_MO_parameter_98 rfl (lv_at hl 1 rfl) ?_
          refine va_callv (va_runV (As := []) (rest := []) ⟨hx, hb, hml, hown, hts⟩ (c_MO_deeper (D := D) (cs := cs) hi hq) (cwV 0 hts (good_V wC_880 wC_882 wC_33 wC_50 wC_883) rfl rfl rfl (by decide +kernel) ⟨(show 1 + 1 ≤ 2 by omega), (show 8 + (1 + 11) + 21 ≤ 43 by omega)⟩) ⟨mP_blind, va_recv hK hP (ci := 5) (q0 := 0) rfl (wd_at (by decide) rfl), fun U hU hW => ⟨rfl, by rw [hU]; exact hP, va_K.moved hW.alike hK, hN.warm hW⟩⟩ rfl rfl hl.1 rfl (lv_room (Nat.le_of_ble_eq_true rfl)) d_MO_parameter_99 ⟨Nat.le_of_ble_eq_true rfl, Nat.le_of_ble_eq_true rfl⟩) hS (fun q _ h => h) (fun q h => h) (fun s11 t H locs ht0 hvm hq hB hz1 hk1 hS => ?_)
          obtain ⟨hP, -, -⟩ := hB
          rw [ht0] at hP
          refine lv_aload_n hx hb d_MO_parameter_102 rfl (lv_at hl 1 rfl) ?_
          refine cw_get (C := R_MO) (T := F_MO) (N := 39) (v := .int (gI s11 10)) hx hb hts (in_MO _) hown hK hP 0 (by decide) rfl rfl 34 (by decide) (ht _ wC_716) rfl d_MO_parameter_103 ?_
          refine lv_if_ne (tgt := 133) hx hb d_MO_parameter_106 (by decide) (fun c12 => ?_) (fun c12 => ?_)
          · have hq := hq.2 c12
            exact W.vret hx hb hr (fun t ht hW => ⟨⟨s11, rfl, hq, by rw [ht]; exact hP, va_K.moved hW.alike hK, hN.warm hW⟩, hS.F ht⟩) hS.2.2 d_MO_parameter_133
          · have hq := hq.1 c12
            refine lv_aload_n hx hb d_MO_parameter_109 rfl (lv_at hl 1 rfl) ?_
            refine lv_aload_n hx hb d_MO_parameter_110 rfl (lv_at hl 1 rfl) ?_
            refine cw_get (C := R_MO) (T := F_MO) (N := 39) (v := .ref (am 10)) hx hb hts (in_MO _) hown hK hP 0 (by decide) rfl rfl 15 (by decide) (ht _ wC_697) rfl d_MO_parameter_111 ?_
            refine lv_iconst (v := 2) hx hb d_MO_parameter_114 (by decide) ?_
            refine lv_iload_n hx hb d_MO_parameter_115 rfl (lv_at hl 0 rfl) ?_
            refine lv_imul hx hb d_MO_parameter_116 ?_
            refine lv_iload_n hx hb d_MO_parameter_117 rfl (lv_at hl 3 rfl) ?_
            refine lv_iadd hx hb d_MO_parameter_118 ?_
            refine cw_iald hx hb hK hP 10 (by decide) rfl 0 rfl hq.1 d_MO_parameter_119 ?_
            have hq := hq.2
            refine lv_aload_n hx hb d_MO_parameter_120 rfl (lv_at hl 1 rfl) ?_
            refine cw_get (C := R_MO) (T := F_MO) (N := 39) (v := .ref (am 11)) hx hb hts (in_MO _) hown hK hP 0 (by decide) rfl rfl 16 (by decide) (ht _ wC_698) rfl d_MO_parameter_121 ?_
            refine lv_iconst (v := 2) hx hb d_MO_parameter_124 (by decide) ?_
            refine lv_iload_n hx hb d_MO_parameter_125 rfl (lv_at hl 0 rfl) ?_
            refine lv_imul hx hb d_MO_parameter_126 ?_
            refine lv_iload_n hx hb d_MO_parameter_127 rfl (lv_at hl 3 rfl) ?_
            refine lv_iadd hx hb d_MO_parameter_128 ?_
            refine cw_iald hx hb hK hP 11 (by decide) rfl 0 rfl hq.1 d_MO_parameter_129 ?_
            have hq := hq.2
            refine va_callv (va_runV (As := [.int (gA s11 7 (((2 * (gA σ 12 p1.toNatClampNeg)) + p2).toNatClampNeg)), .int (gA s11 8 (((2 * (gA σ 12 p1.toNatClampNeg)) + p2).toNatClampNeg))]) (rest := []) ⟨hx, hb, hml, hown, hts⟩ (c_MO_enter (D := D) (cs := cs) hi hq) (cwV 2 hts (good_V wC_851 wC_853 wC_26 wC_50 wC_854) rfl rfl rfl (by decide +kernel) ⟨(show 1 + 1 ≤ 2 by omega), (show 8 + (3 + 11) + 21 ≤ 43 by omega)⟩) ⟨mP_blind, va_recv hK hP (ci := 5) (q0 := 0) rfl (wd_at (by decide) rfl), fun U hU hW => ⟨rfl, by rw [hU]; exact hP, va_K.moved hW.alike hK, hN.warm hW⟩⟩ rfl rfl hl.1 rfl (lv_room (Nat.le_of_ble_eq_true rfl)) d_MO_parameter_130 ⟨Nat.le_of_ble_eq_true rfl, Nat.le_of_ble_eq_true rfl⟩) hS (fun q _ h => h) (fun q h => h) (fun s14 t H locs ht0 hvm hq hB hz1 hk1 hS => ?_)
            obtain ⟨hP, -, -⟩ := hB
            rw [ht0] at hP
            exact W.vret hx hb hr (fun t ht hW => ⟨⟨s14, rfl, hq, by rw [ht]; exact hP, va_K.moved hW.alike hK, hN.warm hW⟩, hS.F ht⟩) hS.2.2 d_MO_parameter_133
        · have hq := hq.2 c8
          refine lv_aload_n hx hb d_MO_parameter_83 rfl (lv_at hl 1 rfl) ?_
          refine lv_iconst (v := 4) hx hb d_MO_parameter_84 (by decide) ?_
          refine va_callv (va_runV (As := [.int 4]) (rest := []) ⟨hx, hb, hml, hown, hts⟩ (c_MO_wrong (D := D) (cs := cs) hi hq) (cwV 1 hts (good_V wC_855 wC_857 wC_27 wC_50 wC_858) rfl rfl rfl (by decide +kernel) ⟨(show 0 + 1 ≤ 2 by omega), (show 8 + (2 + 11) + 0 ≤ 43 by omega)⟩) ⟨mP_blind, va_recv hK hP (ci := 5) (q0 := 0) rfl (wd_at (by decide) rfl), fun U hU hW => ⟨rfl, by rw [hU]; exact hP, va_K.moved hW.alike hK, hN.warm hW⟩⟩ rfl rfl hl.1 rfl (lv_room (Nat.le_of_ble_eq_true rfl)) d_MO_parameter_85 ⟨Nat.le_of_ble_eq_true rfl, Nat.le_of_ble_eq_true rfl⟩) hS (fun q _ h => h) (fun q h => h) (fun s16 t H locs ht0 hvm hq hB hz1 hk1 hS => ?_)
          obtain ⟨hP, -, -⟩ := hB
          rw [ht0] at hP
          refine lv_goto (tgt := 133) hx hb d_MO_parameter_88 (by decide) ?_
          exact W.vret hx hb hr (fun t ht hW => ⟨⟨s16, rfl, hq, by rw [ht]; exact hP, va_K.moved hW.alike hK, hN.warm hW⟩, hS.F ht⟩) hS.2.2 d_MO_parameter_133
      · have hq := hq.1 c7
        refine lv_aload_n hx hb d_MO_parameter_53 rfl (lv_at hl 1 rfl) ?_
        refine lv_aload_n hx hb d_MO_parameter_54 rfl (lv_at hl 1 rfl) ?_
        refine cw_get (C := R_MO) (T := F_MO) (N := 39) (v := .ref (am 14)) hx hb hts (in_MO _) hown hK hP 0 (by decide) rfl rfl 19 (by decide) (ht _ wC_701) rfl d_MO_parameter_55 ?_
        refine lv_iconst (v := 2) hx hb d_MO_parameter_58 (by decide) ?_
        refine lv_iload_n hx hb d_MO_parameter_59 rfl (lv_at hl 0 rfl) ?_
        refine lv_imul hx hb d_MO_parameter_60 ?_
        refine lv_iload_n hx hb d_MO_parameter_61 rfl (lv_at hl 3 rfl) ?_
        refine lv_iadd hx hb d_MO_parameter_62 ?_
        refine cw_dald hx hb hK hP 14 (by decide) rfl 1 rfl hq.1 d_MO_parameter_63 ?_
        have hq := hq.2
        refine va_callv (va_runV (As := [.double (gD s6 2 (((2 * (gA σ 12 p1.toNatClampNeg)) + p2).toNatClampNeg))]) (rest := []) ⟨hx, hb, hml, hown, hts⟩ (c_MO_end (D := D) (cs := cs) hi hq) (cwV 1 hts (good_V wC_864 wC_866 wC_29 wC_50 wC_867) rfl rfl rfl (by decide +kernel) ⟨(show 0 + 1 ≤ 2 by omega), (show 8 + (3 + 11) + 0 ≤ 43 by omega)⟩) ⟨mP_blind, va_recv hK hP (ci := 5) (q0 := 0) rfl (wd_at (by decide) rfl), fun U hU hW => ⟨rfl, by rw [hU]; exact hP, va_K.moved hW.alike hK, hN.warm hW⟩⟩ rfl rfl hl.1 rfl (lv_room (Nat.le_of_ble_eq_true rfl)) d_MO_parameter_64 ⟨Nat.le_of_ble_eq_true rfl, Nat.le_of_ble_eq_true rfl⟩) hS (fun q _ h => h) (fun q h => h) (fun s18 t H locs ht0 hvm hq hB hz1 hk1 hS => ?_)
        obtain ⟨hP, -, -⟩ := hB
        rw [ht0] at hP
        refine lv_goto (tgt := 133) hx hb d_MO_parameter_67 (by decide) ?_
        exact W.vret hx hb hr (fun t ht hW => ⟨⟨s18, rfl, hq, by rw [ht]; exact hP, va_K.moved hW.alike hK, hN.warm hW⟩, hS.F ht⟩) hS.2.2 d_MO_parameter_133
    · have hq := hq.1 c4
      refine lv_aload_n hx hb d_MO_parameter_36 rfl (lv_at hl 1 rfl) ?_
      refine lv_iconst (v := 4) hx hb d_MO_parameter_37 (by decide) ?_
      refine va_callv (va_runV (As := [.int 4]) (rest := []) ⟨hx, hb, hml, hown, hts⟩ (c_MO_wrong (D := D) (cs := cs) hi hq) (cwV 1 hts (good_V wC_855 wC_857 wC_27 wC_50 wC_858) rfl rfl rfl (by decide +kernel) ⟨(show 0 + 1 ≤ 2 by omega), (show 8 + (2 + 11) + 0 ≤ 43 by omega)⟩) ⟨mP_blind, va_recv hK hP (ci := 5) (q0 := 0) rfl (wd_at (by decide) rfl), fun U hU hW => ⟨rfl, by rw [hU]; exact hP, va_K.moved hW.alike hK, hN.warm hW⟩⟩ rfl rfl hl.1 rfl (lv_room (Nat.le_of_ble_eq_true rfl)) d_MO_parameter_38 ⟨Nat.le_of_ble_eq_true rfl, Nat.le_of_ble_eq_true rfl⟩) hS (fun q _ h => h) (fun q h => h) (fun s20 t H locs ht0 hvm hq hB hz1 hk1 hS => ?_)
      obtain ⟨hP, -, -⟩ := hB
      rw [ht0] at hP
      refine lv_goto (tgt := 133) hx hb d_MO_parameter_41 (by decide) ?_
      exact W.vret hx hb hr (fun t ht hW => ⟨⟨s20, rfl, hq, by rw [ht]; exact hP, va_K.moved hW.alike hK, hN.warm hW⟩, hS.F ht⟩) hS.2.2 d_MO_parameter_133
  · have hq := hq.2 c1
    refine lv_aload_n hx hb d_MO_parameter_16 rfl (lv_at hl 1 rfl) ?_
    refine lv_aload_n hx hb d_MO_parameter_17 rfl (lv_at hl 1 rfl) ?_
    refine cw_get (C := R_MO) (T := F_MO) (N := 39) (v := .double (gX σ 0)) hx hb hts (in_MO _) hown hK hP 0 (by decide) rfl rfl 38 (by decide) (ht _ wC_720) rfl d_MO_parameter_18 ?_
    refine va_callv (va_runV (As := [.double (gX σ 0)]) (rest := []) ⟨hx, hb, hml, hown, hts⟩ (c_MO_end (D := D) (cs := cs) hi hq) (cwV 1 hts (good_V wC_864 wC_866 wC_29 wC_50 wC_867) rfl rfl rfl (by decide +kernel) ⟨(show 0 + 1 ≤ 2 by omega), (show 8 + (3 + 11) + 0 ≤ 43 by omega)⟩) ⟨mP_blind, va_recv hK hP (ci := 5) (q0 := 0) rfl (wd_at (by decide) rfl), fun U hU hW => ⟨rfl, by rw [hU]; exact hP, va_K.moved hW.alike hK, hN.warm hW⟩⟩ rfl rfl hl.1 rfl (lv_room (Nat.le_of_ble_eq_true rfl)) d_MO_parameter_21 ⟨Nat.le_of_ble_eq_true rfl, Nat.le_of_ble_eq_true rfl⟩) hS (fun q _ h => h) (fun q h => h) (fun s22 t H locs ht0 hvm hq hB hz1 hk1 hS => ?_)
    obtain ⟨hP, -, -⟩ := hB
    rw [ht0] at hP
    refine lv_goto (tgt := 133) hx hb d_MO_parameter_24 (by decide) ?_
    exact W.vret hx hb hr (fun t ht hW => ⟨⟨s22, rfl, hq, by rw [ht]; exact hP, va_K.moved hW.alike hK, hN.warm hW⟩, hS.F ht⟩) hS.2.2 d_MO_parameter_133
def lp_MO_call_284 (p1 : Int32) (p2 : Int32) (Q : CS → Prop) : Nat → Int32 → Int32 → Int32 → Int32 → CS → Prop
  | 0 => fun _ _ _ _ _ => False
  | k + 1 => fun x6 x5 x4 x3 σ => ((2 ≤ x6 → (vp_in p1 310 ∧ (∀ s14 : CS, s14 = sA σ 13 (upd (gA σ 13) p1.toNatClampNeg 9) → (vp_in x3 4 ∧ (wp_MO_enter (gA s14 4 x3.toNatClampNeg) x5 s14 (fun s16 => Q s16)))))) ∧ (¬ 2 ≤ x6 → ((x6 = 0 → (vp_in p1 310 ∧ (vp_in ((2 * x5) + x6) 20 ∧ (∀ s26 : CS, s26 = sD σ 2 (vf_upd (gD σ 2) (((2 * x5) + x6).toNatClampNeg) (gD σ 4 p1.toNatClampNeg)) → ((x6 = 0 → (vp_in p2 48 ∧ (vp_in ((2 * x5) + x6) 20 ∧ (∀ s31 : CS, s31 = sA s26 7 (upd (gA s26 7) (((2 * x5) + x6).toNatClampNeg) (gA s26 2 p2.toNatClampNeg)) → (vp_in p1 310 ∧ (vp_in ((2 * x5) + x6) 20 ∧ (∀ s32 : CS, s32 = sA s31 8 (upd (gA s31 8) (((2 * x5) + x6).toNatClampNeg) (gA s31 12 p1.toNatClampNeg)) → (vp_in ((2 * x5) + x6) 20 ∧ (∀ s33 : CS, s33 = sD s32 3 (vf_upd (gD s32 3) (((2 * x5) + x6).toNatClampNeg) FP.dconst0) → lp_MO_call_284 p1 p2 Q k (x6 + 1) x5 x4 x3 s33))))))))) ∧ (¬ x6 = 0 → (vp_in p2 48 ∧ (vp_in ((2 * x5) + x6) 20 ∧ (∀ s28 : CS, s28 = sA s26 7 (upd (gA s26 7) (((2 * x5) + x6).toNatClampNeg) (gA s26 3 p2.toNatClampNeg)) → (vp_in p1 310 ∧ (vp_in ((2 * x5) + x6) 20 ∧ (∀ s29 : CS, s29 = sA s28 8 (upd (gA s28 8) (((2 * x5) + x6).toNatClampNeg) (gA s28 12 p1.toNatClampNeg)) → (vp_in ((2 * x5) + x6) 20 ∧ (∀ s30 : CS, s30 = sD s29 3 (vf_upd (gD s29 3) (((2 * x5) + x6).toNatClampNeg) FP.dconst0) → lp_MO_call_284 p1 p2 Q k (x6 + 1) x5 x4 x3 s30)))))))))))))) ∧ (¬ x6 = 0 → (vp_in p1 310 ∧ (vp_in ((2 * x5) + x6) 20 ∧ (∀ s18 : CS, s18 = sD σ 2 (vf_upd (gD σ 2) (((2 * x5) + x6).toNatClampNeg) (gD σ 5 p1.toNatClampNeg)) → ((x6 = 0 → (vp_in p2 48 ∧ (vp_in ((2 * x5) + x6) 20 ∧ (∀ s23 : CS, s23 = sA s18 7 (upd (gA s18 7) (((2 * x5) + x6).toNatClampNeg) (gA s18 2 p2.toNatClampNeg)) → (vp_in p1 310 ∧ (vp_in ((2 * x5) + x6) 20 ∧ (∀ s24 : CS, s24 = sA s23 8 (upd (gA s23 8) (((2 * x5) + x6).toNatClampNeg) (gA s23 12 p1.toNatClampNeg)) → (vp_in ((2 * x5) + x6) 20 ∧ (∀ s25 : CS, s25 = sD s24 3 (vf_upd (gD s24 3) (((2 * x5) + x6).toNatClampNeg) FP.dconst0) → lp_MO_call_284 p1 p2 Q k (x6 + 1) x5 x4 x3 s25))))))))) ∧ (¬ x6 = 0 → (vp_in p2 48 ∧ (vp_in ((2 * x5) + x6) 20 ∧ (∀ s20 : CS, s20 = sA s18 7 (upd (gA s18 7) (((2 * x5) + x6).toNatClampNeg) (gA s18 3 p2.toNatClampNeg)) → (vp_in p1 310 ∧ (vp_in ((2 * x5) + x6) 20 ∧ (∀ s21 : CS, s21 = sA s20 8 (upd (gA s20 8) (((2 * x5) + x6).toNatClampNeg) (gA s20 12 p1.toNatClampNeg)) → (vp_in ((2 * x5) + x6) 20 ∧ (∀ s22 : CS, s22 = sD s21 3 (vf_upd (gD s21 3) (((2 * x5) + x6).toNatClampNeg) FP.dconst0) → lp_MO_call_284 p1 p2 Q k (x6 + 1) x5 x4 x3 s22)))))))))))))))))
def lp_MO_call_124 (p1 : Int32) (p2 : Int32) (Q : CS → Prop) : Nat → Int32 → Int32 → Int32 → CS → Prop
  | 0 => fun _ _ _ _ => False
  | k + 1 => fun x5 x4 x3 σ => (vp_in x3 4 ∧ (((gA σ 5 x3.toNatClampNeg) ≤ x5 → (wp_MO_deeper  σ (fun s7 => (((gI s7 10) ≤ 0 → (∀ s9 : CS, s9 = sI s7 6 ((gI s7 6) + 1) → (∀ s10 : CS, s10 = sI s9 11 ((gI s9 11) + 1) → (vp_in x3 4 ∧ (vp_in (gI s9 6) 10 ∧ (∀ s11 : CS, s11 = sA s10 9 (upd (gA s10 9) ((gI s9 6).toNatClampNeg) (gA s10 5 x3.toNatClampNeg)) → (vp_in x3 4 ∧ (vp_in (gI s9 6) 10 ∧ (∀ s12 : CS, s12 = sA s11 10 (upd (gA s11 10) ((gI s9 6).toNatClampNeg) (gA s11 6 x3.toNatClampNeg)) → (∃ fu : Nat, lp_MO_call_284 p1 p2 Q fu 0 (gI s9 6) x4 x3 s12)))))))))) ∧ (¬ (gI s7 10) ≤ 0 → Q s7))))) ∧ (¬ (gA σ 5 x3.toNatClampNeg) ≤ x5 → (vp_in x3 4 ∧ (((((gA σ 6 x3.toNatClampNeg) >>> (x5 &&& 31)) &&& 1) = 1 → lp_MO_call_124 p1 p2 Q k (x5 + 1) x4 x3 σ) ∧ (¬ (((gA σ 6 x3.toNatClampNeg) >>> (x5 &&& 31)) &&& 1) = 1 → ((x5 = 0 → (vp_in p2 48 ∧ (vp_in p1 310 ∧ (∀ s42 : CS, s42 = sA σ 13 (upd (gA σ 13) p1.toNatClampNeg (x5 + 1)) → ((0 ≤ (gA σ 2 p2.toNatClampNeg) → (vp_in p1 310 ∧ (wp_MO_enter (gA σ 2 p2.toNatClampNeg) (gA s42 12 p1.toNatClampNeg) s42 (fun s45 => Q s45)))) ∧ (¬ 0 ≤ (gA σ 2 p2.toNatClampNeg) → (wp_MO_wrong 4 s42 (fun s47 => Q s47)))))))) ∧ (¬ x5 = 0 → (vp_in p2 48 ∧ (vp_in p1 310 ∧ (∀ s36 : CS, s36 = sA σ 13 (upd (gA σ 13) p1.toNatClampNeg (x5 + 1)) → ((0 ≤ (gA σ 3 p2.toNatClampNeg) → (vp_in p1 310 ∧ (wp_MO_enter (gA σ 3 p2.toNatClampNeg) (gA s36 12 p1.toNatClampNeg) s36 (fun s39 => Q s39)))) ∧ (¬ 0 ≤ (gA σ 3 p2.toNatClampNeg) → (wp_MO_wrong 4 s36 (fun s41 => Q s41)))))))))))))))
def wp_MO_call (p1 : Int32) (p2 : Int32) (σ : CS) (Q : CS → Prop) : Prop := (vp_in p2 48 ∧ (vp_in p1 310 ∧ (((gA σ 13 p1.toNatClampNeg) = 0 → (vp_in (gA σ 1 p2.toNatClampNeg) 4 ∧ (((gA σ 4 ((gA σ 1 p2.toNatClampNeg).toNatClampNeg)) < 0 → (wp_MO_wrong 4 σ (fun s56 => Q s56))) ∧ (¬ (gA σ 4 ((gA σ 1 p2.toNatClampNeg).toNatClampNeg)) < 0 → (vp_in (gA σ 1 p2.toNatClampNeg) 4 ∧ (((gA σ 5 ((gA σ 1 p2.toNatClampNeg).toNatClampNeg)) ≤ 0 → (vp_in (gA σ 1 p2.toNatClampNeg) 4 ∧ (((gA σ 5 ((gA σ 1 p2.toNatClampNeg).toNatClampNeg)) ≤ 1 → (((gA σ 13 p1.toNatClampNeg) = 9 → (wp_MO_end (gX σ 0) σ (fun s67 => Q s67))) ∧ (¬ (gA σ 13 p1.toNatClampNeg) = 9 → (((gA σ 13 p1.toNatClampNeg) = 1 → (vp_in p1 310 ∧ (∀ s63 : CS, s63 = sD σ 4 (vf_upd (gD σ 4) p1.toNatClampNeg (gX σ 0)) → (((gA σ 13 p1.toNatClampNeg) = 2 → (vp_in p1 310 ∧ (∀ s65 : CS, s65 = sD s63 5 (vf_upd (gD s63 5) p1.toNatClampNeg (gX s63 0)) → (∃ fu : Nat, lp_MO_call_124 p1 p2 Q fu (gA σ 13 p1.toNatClampNeg) (gA σ 13 p1.toNatClampNeg) (gA σ 1 p2.toNatClampNeg) s65)))) ∧ (¬ (gA σ 13 p1.toNatClampNeg) = 2 → (∃ fu : Nat, lp_MO_call_124 p1 p2 Q fu (gA σ 13 p1.toNatClampNeg) (gA σ 13 p1.toNatClampNeg) (gA σ 1 p2.toNatClampNeg) s63)))))) ∧ (¬ (gA σ 13 p1.toNatClampNeg) = 1 → (((gA σ 13 p1.toNatClampNeg) = 2 → (vp_in p1 310 ∧ (∀ s62 : CS, s62 = sD σ 5 (vf_upd (gD σ 5) p1.toNatClampNeg (gX σ 0)) → (∃ fu : Nat, lp_MO_call_124 p1 p2 Q fu (gA σ 13 p1.toNatClampNeg) (gA σ 13 p1.toNatClampNeg) (gA σ 1 p2.toNatClampNeg) s62)))) ∧ (¬ (gA σ 13 p1.toNatClampNeg) = 2 → (∃ fu : Nat, lp_MO_call_124 p1 p2 Q fu (gA σ 13 p1.toNatClampNeg) (gA σ 13 p1.toNatClampNeg) (gA σ 1 p2.toNatClampNeg) σ)))))))) ∧ (¬ (gA σ 5 ((gA σ 1 p2.toNatClampNeg).toNatClampNeg)) ≤ 1 → (vp_in p2 48 ∧ ((0 ≤ (gA σ 3 p2.toNatClampNeg) → (((gA σ 13 p1.toNatClampNeg) = 9 → (wp_MO_end (gX σ 0) σ (fun s77 => Q s77))) ∧ (¬ (gA σ 13 p1.toNatClampNeg) = 9 → (((gA σ 13 p1.toNatClampNeg) = 1 → (vp_in p1 310 ∧ (∀ s73 : CS, s73 = sD σ 4 (vf_upd (gD σ 4) p1.toNatClampNeg (gX σ 0)) → (((gA σ 13 p1.toNatClampNeg) = 2 → (vp_in p1 310 ∧ (∀ s75 : CS, s75 = sD s73 5 (vf_upd (gD s73 5) p1.toNatClampNeg (gX s73 0)) → (∃ fu : Nat, lp_MO_call_124 p1 p2 Q fu (gA σ 13 p1.toNatClampNeg) (gA σ 13 p1.toNatClampNeg) (gA σ 1 p2.toNatClampNeg) s75)))) ∧ (¬ (gA σ 13 p1.toNatClampNeg) = 2 → (∃ fu : Nat, lp_MO_call_124 p1 p2 Q fu (gA σ 13 p1.toNatClampNeg) (gA σ 13 p1.toNatClampNeg) (gA σ 1 p2.toNatClampNeg) s73)))))) ∧ (¬ (gA σ 13 p1.toNatClampNeg) = 1 → (((gA σ 13 p1.toNatClampNeg) = 2 → (vp_in p1 310 ∧ (∀ s72 : CS, s72 = sD σ 5 (vf_upd (gD σ 5) p1.toNatClampNeg (gX σ 0)) → (∃ fu : Nat, lp_MO_call_124 p1 p2 Q fu (gA σ 13 p1.toNatClampNeg) (gA σ 13 p1.toNatClampNeg) (gA σ 1 p2.toNatClampNeg) s72)))) ∧ (¬ (gA σ 13 p1.toNatClampNeg) = 2 → (∃ fu : Nat, lp_MO_call_124 p1 p2 Q fu (gA σ 13 p1.toNatClampNeg) (gA σ 13 p1.toNatClampNeg) (gA σ 1 p2.toNatClampNeg) σ)))))))) ∧ (¬ 0 ≤ (gA σ 3 p2.toNatClampNeg) → (wp_MO_wrong 4 σ (fun s79 => Q s79))))))))) ∧ (¬ (gA σ 5 ((gA σ 1 p2.toNatClampNeg).toNatClampNeg)) ≤ 0 → (vp_in p2 48 ∧ (((gA σ 2 p2.toNatClampNeg) < 0 → (wp_MO_wrong 4 σ (fun s82 => Q s82))) ∧ (¬ (gA σ 2 p2.toNatClampNeg) < 0 → (vp_in (gA σ 1 p2.toNatClampNeg) 4 ∧ (((gA σ 5 ((gA σ 1 p2.toNatClampNeg).toNatClampNeg)) ≤ 1 → (((gA σ 13 p1.toNatClampNeg) = 9 → (wp_MO_end (gX σ 0) σ (fun s92 => Q s92))) ∧ (¬ (gA σ 13 p1.toNatClampNeg) = 9 → (((gA σ 13 p1.toNatClampNeg) = 1 → (vp_in p1 310 ∧ (∀ s88 : CS, s88 = sD σ 4 (vf_upd (gD σ 4) p1.toNatClampNeg (gX σ 0)) → (((gA σ 13 p1.toNatClampNeg) = 2 → (vp_in p1 310 ∧ (∀ s90 : CS, s90 = sD s88 5 (vf_upd (gD s88 5) p1.toNatClampNeg (gX s88 0)) → (∃ fu : Nat, lp_MO_call_124 p1 p2 Q fu (gA σ 13 p1.toNatClampNeg) (gA σ 13 p1.toNatClampNeg) (gA σ 1 p2.toNatClampNeg) s90)))) ∧ (¬ (gA σ 13 p1.toNatClampNeg) = 2 → (∃ fu : Nat, lp_MO_call_124 p1 p2 Q fu (gA σ 13 p1.toNatClampNeg) (gA σ 13 p1.toNatClampNeg) (gA σ 1 p2.toNatClampNeg) s88)))))) ∧ (¬ (gA σ 13 p1.toNatClampNeg) = 1 → (((gA σ 13 p1.toNatClampNeg) = 2 → (vp_in p1 310 ∧ (∀ s87 : CS, s87 = sD σ 5 (vf_upd (gD σ 5) p1.toNatClampNeg (gX σ 0)) → (∃ fu : Nat, lp_MO_call_124 p1 p2 Q fu (gA σ 13 p1.toNatClampNeg) (gA σ 13 p1.toNatClampNeg) (gA σ 1 p2.toNatClampNeg) s87)))) ∧ (¬ (gA σ 13 p1.toNatClampNeg) = 2 → (∃ fu : Nat, lp_MO_call_124 p1 p2 Q fu (gA σ 13 p1.toNatClampNeg) (gA σ 13 p1.toNatClampNeg) (gA σ 1 p2.toNatClampNeg) σ)))))))) ∧ (¬ (gA σ 5 ((gA σ 1 p2.toNatClampNeg).toNatClampNeg)) ≤ 1 → (vp_in p2 48 ∧ ((0 ≤ (gA σ 3 p2.toNatClampNeg) → (((gA σ 13 p1.toNatClampNeg) = 9 → (wp_MO_end (gX σ 0) σ (fun s102 => Q s102))) ∧ (¬ (gA σ 13 p1.toNatClampNeg) = 9 → (((gA σ 13 p1.toNatClampNeg) = 1 → (vp_in p1 310 ∧ (∀ s98 : CS, s98 = sD σ 4 (vf_upd (gD σ 4) p1.toNatClampNeg (gX σ 0)) → (((gA σ 13 p1.toNatClampNeg) = 2 → (vp_in p1 310 ∧ (∀ s100 : CS, s100 = sD s98 5 (vf_upd (gD s98 5) p1.toNatClampNeg (gX s98 0)) → (∃ fu : Nat, lp_MO_call_124 p1 p2 Q fu (gA σ 13 p1.toNatClampNeg) (gA σ 13 p1.toNatClampNeg) (gA σ 1 p2.toNatClampNeg) s100)))) ∧ (¬ (gA σ 13 p1.toNatClampNeg) = 2 → (∃ fu : Nat, lp_MO_call_124 p1 p2 Q fu (gA σ 13 p1.toNatClampNeg) (gA σ 13 p1.toNatClampNeg) (gA σ 1 p2.toNatClampNeg) s98)))))) ∧ (¬ (gA σ 13 p1.toNatClampNeg) = 1 → (((gA σ 13 p1.toNatClampNeg) = 2 → (vp_in p1 310 ∧ (∀ s97 : CS, s97 = sD σ 5 (vf_upd (gD σ 5) p1.toNatClampNeg (gX σ 0)) → (∃ fu : Nat, lp_MO_call_124 p1 p2 Q fu (gA σ 13 p1.toNatClampNeg) (gA σ 13 p1.toNatClampNeg) (gA σ 1 p2.toNatClampNeg) s97)))) ∧ (¬ (gA σ 13 p1.toNatClampNeg) = 2 → (∃ fu : Nat, lp_MO_call_124 p1 p2 Q fu (gA σ 13 p1.toNatClampNeg) (gA σ 13 p1.toNatClampNeg) (gA σ 1 p2.toNatClampNeg) σ)))))))) ∧ (¬ 0 ≤ (gA σ 3 p2.toNatClampNeg) → (wp_MO_wrong 4 σ (fun s104 => Q s104)))))))))))))))))) ∧ (¬ (gA σ 13 p1.toNatClampNeg) = 0 → (((gA σ 13 p1.toNatClampNeg) = 9 → (wp_MO_end (gX σ 0) σ (fun s53 => Q s53))) ∧ (¬ (gA σ 13 p1.toNatClampNeg) = 9 → (((gA σ 13 p1.toNatClampNeg) = 1 → (vp_in p1 310 ∧ (∀ s49 : CS, s49 = sD σ 4 (vf_upd (gD σ 4) p1.toNatClampNeg (gX σ 0)) → (((gA σ 13 p1.toNatClampNeg) = 2 → (vp_in p1 310 ∧ (∀ s51 : CS, s51 = sD s49 5 (vf_upd (gD s49 5) p1.toNatClampNeg (gX s49 0)) → (∃ fu : Nat, lp_MO_call_124 p1 p2 Q fu (gA σ 13 p1.toNatClampNeg) (gA σ 13 p1.toNatClampNeg) (gA σ 1 p2.toNatClampNeg) s51)))) ∧ (¬ (gA σ 13 p1.toNatClampNeg) = 2 → (∃ fu : Nat, lp_MO_call_124 p1 p2 Q fu (gA σ 13 p1.toNatClampNeg) (gA σ 13 p1.toNatClampNeg) (gA σ 1 p2.toNatClampNeg) s49)))))) ∧ (¬ (gA σ 13 p1.toNatClampNeg) = 1 → (((gA σ 13 p1.toNatClampNeg) = 2 → (vp_in p1 310 ∧ (∀ s48 : CS, s48 = sD σ 5 (vf_upd (gD σ 5) p1.toNatClampNeg (gX σ 0)) → (∃ fu : Nat, lp_MO_call_124 p1 p2 Q fu (gA σ 13 p1.toNatClampNeg) (gA σ 13 p1.toNatClampNeg) (gA σ 1 p2.toNatClampNeg) s48)))) ∧ (¬ (gA σ 13 p1.toNatClampNeg) = 2 → (∃ fu : Nat, lp_MO_call_124 p1 p2 Q fu (gA σ 13 p1.toNatClampNeg) (gA σ 13 p1.toNatClampNeg) (gA σ 1 p2.toNatClampNeg) σ)))))))))))
set_option maxHeartbeats 4000000 in
set_option maxRecDepth 100000 in
theorem c_MO_call {l : Launch} {D : va_G} {cs : CI} {am : Nat → Nat} (hi : aI am 25) {p1 : Int32} {p2 : Int32} {σ : CS} {Q : CS → Prop} (hq : wp_MO_call p1 p2 σ Q) : Met l y_MO_call (.code y_MO_call b_MO_call 7 none :: wC) ({ frames := 2, cells := 0, slots := 0, locals := 43 }) (va_Pc [.ref (am 0), .int p1, .int p2] (mP D cs am σ)) (va_Qv Q (mP D cs am) (aK am 25)) 0 0 (aK am 25) := by
  refine Met.ofW (cc := b_MO_call) (maxL := 7) (ret := none) (by decide) rfl ?_
  intro p e s m args below meth c s₁ B hml hv
  obtain ⟨rfl, hP, hK, hN⟩ := hv
  have hx := B.exec
  have hb := B.bytes
  have hr := B.returns
  have hts := atoms_spec (ws := .code y_MO_call b_MO_call 7 none :: wC) B.pre
  have ht : ∀ w ∈ wC, w.before _ s = true := fun w h => hts w (List.mem_cons_of_mem _ h)
  have hown : s.vm.findClass R_MO = some m.cls := findClass_of_methodNamed B.named
  have hlocks := B.notSynchronized
  have hS : va_S (aK am 25) s.heap s.heap [] := va_S.rf
  have hl := lv_entry ([.ref (am 0), .int p1, .int p2]) (n := 7) (Nat.le_of_ble_eq_true rfl)
  rw [lg_entry_eq]
  generalize (lg_sl ([.ref (am 0), .int p1, .int p2]) ++ List.replicate (7 - (lg_sl ([.ref (am 0), .int p1, .int p2])).length) Slot.unset).toArray = ls at hl ⊢
  have hl : lv_has ls 7 [(0, .ref (am 0)), (1, .int p1), (2, .int p2)] := hl
  unfold wp_MO_call at hq
  have hh8 : 8 < 9 := by decide
  have loop_284 : ∀ (k : Nat) (x6 : Int32) (x5 : Int32) (x4 : Int32) (x3 : Int32) (σ : CS) (H : Heap) (locs : List Loc) (ls : Array Slot), lp_MO_call_284 p1 p2 Q k x6 x5 x4 x3 σ → va_P D clA (wd am (contM am cs σ) 25) H → va_S (aK am 25) s.heap H locs → lv_has ls 7 [(6, .int x6), (5, .int x5), (4, .int x4), (3, .int x3), (0, .ref (am 0)), (1, .int p1), (2, .int p2)] → W p l e (headSpec (.code y_MO_call b_MO_call 7 none :: wC) ({ frames := 2, cells := 0, slots := 0, locals := 43 })).room s m ([.ref (am 0), .int p1, .int p2] : List Value).toArray below meth c H locs 0 0 (MQ below (va_Qv Q (mP D cs am) (aK am 25)) ([.ref (am 0), .int p1, .int p2] : List Value).toArray s 0 0 (aK am 25)) (F0 m 284 ls []) := by
    intro k
    induction k with
    | zero => intro x6 x5 x4 x3 σ H locs ls hq; exact hq.elim
    | succ k ih =>
      intro x6 x5 x4 x3 σ H locs ls hq hP hS hl
      unfold lp_MO_call_284 at hq
      refine lv_iload hx hb d_MO_call_284 (lv_at hl 0 rfl) ?_
      refine lv_iconst (v := 2) hx hb d_MO_call_286 (by decide) ?_
      refine lv_icmp_ge (tgt := 391) hx hb d_MO_call_287 (by decide) (fun c13 => ?_) (fun c13 => ?_)
      · have hq := hq.1 c13
        refine lv_aload_n hx hb d_MO_call_391 rfl (lv_at hl 4 rfl) ?_
        refine cw_get (C := R_MO) (T := F_MO) (N := 39) (v := .ref (am 18)) hx hb hts (in_MO _) hown hK hP 0 (by decide) rfl rfl 25 (by decide) (ht _ wC_707) rfl d_MO_call_392 ?_
        refine lv_iload_n hx hb d_MO_call_395 rfl (lv_at hl 5 rfl) ?_
        refine lv_bipush (v := 9) hx hb d_MO_call_396 (by decide) ?_
        refine cw_iast hx hb hK hP hi hS 18 (by decide) rfl 0 rfl hq.1 mpa_13 d_MO_call_398 (fun H locs hP hS => ?_)
        have hq := hq.2
        obtain ⟨s14, e_s14⟩ : ∃ z, z = sA σ 13 (upd (gA σ 13) p1.toNatClampNeg 9) := ⟨_, rfl⟩
        rw [← e_s14] at hP
        have hq := hq s14 e_s14
        refine lv_aload_n hx hb d_MO_call_399 rfl (lv_at hl 4 rfl) ?_
        refine lv_aload_n hx hb d_MO_call_400 rfl (lv_at hl 4 rfl) ?_
        refine cw_get (C := R_MO) (T := F_MO) (N := 39) (v := .ref (am 5)) hx hb hts (in_MO _) hown hK hP 0 (by decide) rfl rfl 4 (by decide) (ht _ wC_686) rfl d_MO_call_401 ?_
        refine lv_iload_n hx hb d_MO_call_404 rfl (lv_at hl 3 rfl) ?_
        refine cw_iald hx hb hK hP 5 (by decide) rfl 0 rfl hq.1 d_MO_call_405 ?_
        have hq := hq.2
        refine lv_iload hx hb d_MO_call_406 (lv_at hl 1 rfl) ?_
        refine va_callv (va_runV (As := [.int (gA s14 4 x3.toNatClampNeg), .int x5]) (rest := []) ⟨hx, hb, hml, hown, hts⟩ (c_MO_enter (D := D) (cs := cs) hi hq) (cwV 2 hts (good_V wC_851 wC_853 wC_26 wC_50 wC_854) rfl rfl rfl (by decide +kernel) ⟨(show 1 + 1 ≤ 2 by omega), (show 8 + (3 + 11) + 21 ≤ 43 by omega)⟩) ⟨mP_blind, va_recv hK hP (ci := 5) (q0 := 0) rfl (wd_at (by decide) rfl), fun U hU hW => ⟨rfl, by rw [hU]; exact hP, va_K.moved hW.alike hK, hN.warm hW⟩⟩ rfl rfl hl.1 rfl (lv_room (Nat.le_of_ble_eq_true rfl)) d_MO_call_408 ⟨Nat.le_of_ble_eq_true rfl, Nat.le_of_ble_eq_true rfl⟩) hS (fun q _ h => h) (fun q h => h) (fun s16 t H locs ht0 hvm hq hB hz1 hk1 hS => ?_)
        obtain ⟨hP, -, -⟩ := hB
        rw [ht0] at hP
        exact W.vret hx hb hr (fun t ht hW => ⟨⟨s16, rfl, hq, by rw [ht]; exact hP, va_K.moved hW.alike hK, hN.warm hW⟩, hS.F ht⟩) hS.2.2 d_MO_call_411
      · have hq := hq.2 c13
        refine lv_aload_n hx hb d_MO_call_290 rfl (lv_at hl 4 rfl) ?_
        refine cw_get (C := R_MO) (T := F_MO) (N := 39) (v := .ref (am 14)) hx hb hts (in_MO _) hown hK hP 0 (by decide) rfl rfl 19 (by decide) (ht _ wC_701) rfl d_MO_call_291 ?_
        refine lv_iconst (v := 2) hx hb d_MO_call_294 (by decide) ?_
        refine lv_iload hx hb d_MO_call_295 (lv_at hl 1 rfl) ?_
        refine lv_imul hx hb d_MO_call_297 ?_
        refine lv_iload hx hb d_MO_call_298 (lv_at hl 0 rfl) ?_
        refine lv_iadd hx hb d_MO_call_300 ?_
        refine lv_iload hx hb d_MO_call_301 (lv_at hl 0 rfl) ?_
        refine lv_if_ne (tgt := 315) hx hb d_MO_call_303 (by decide) (fun c17 => ?_) (fun c17 => ?_)
        · have hq := hq.2 c17
          refine lv_aload_n hx hb d_MO_call_315 rfl (lv_at hl 4 rfl) ?_
          refine cw_get (C := R_MO) (T := F_MO) (N := 39) (v := .ref (am 24)) hx hb hts (in_MO _) hown hK hP 0 (by decide) rfl rfl 31 (by decide) (ht _ wC_713) rfl d_MO_call_316 ?_
          refine lv_iload_n hx hb d_MO_call_319 rfl (lv_at hl 5 rfl) ?_
          refine cw_dald hx hb hK hP 24 (by decide) rfl 1 rfl hq.1 d_MO_call_320 ?_
          have hq := hq.2
          refine cw_dast hx hb hK hP hi hS 14 (by decide) rfl 1 rfl hq.1 mpd_2 d_MO_call_321 (fun H locs hP hS => ?_)
          have hq := hq.2
          obtain ⟨s18, e_s18⟩ : ∃ z, z = sD σ 2 (vf_upd (gD σ 2) (((2 * x5) + x6).toNatClampNeg) (gD σ 5 p1.toNatClampNeg)) := ⟨_, rfl⟩
          rw [← e_s18] at hP
          have hq := hq s18 e_s18
          refine lv_aload_n hx hb d_MO_call_322 rfl (lv_at hl 4 rfl) ?_
          refine cw_get (C := R_MO) (T := F_MO) (N := 39) (v := .ref (am 10)) hx hb hts (in_MO _) hown hK hP 0 (by decide) rfl rfl 15 (by decide) (ht _ wC_697) rfl d_MO_call_323 ?_
          refine lv_iconst (v := 2) hx hb d_MO_call_326 (by decide) ?_
          refine lv_iload hx hb d_MO_call_327 (lv_at hl 1 rfl) ?_
          refine lv_imul hx hb d_MO_call_329 ?_
          refine lv_iload hx hb d_MO_call_330 (lv_at hl 0 rfl) ?_
          refine lv_iadd hx hb d_MO_call_332 ?_
          refine lv_iload hx hb d_MO_call_333 (lv_at hl 0 rfl) ?_
          refine lv_if_ne (tgt := 347) hx hb d_MO_call_335 (by decide) (fun c19 => ?_) (fun c19 => ?_)
          · have hq := hq.2 c19
            refine lv_aload_n hx hb d_MO_call_347 rfl (lv_at hl 4 rfl) ?_
            refine cw_get (C := R_MO) (T := F_MO) (N := 39) (v := .ref (am 4)) hx hb hts (in_MO _) hown hK hP 0 (by decide) rfl rfl 3 (by decide) (ht _ wC_685) rfl d_MO_call_348 ?_
            refine lv_iload_n hx hb d_MO_call_351 rfl (lv_at hl 6 rfl) ?_
            refine cw_iald hx hb hK hP 4 (by decide) rfl 0 rfl hq.1 d_MO_call_352 ?_
            have hq := hq.2
            refine cw_iast hx hb hK hP hi hS 10 (by decide) rfl 0 rfl hq.1 mpa_7 d_MO_call_353 (fun H locs hP hS => ?_)
            have hq := hq.2
            obtain ⟨s20, e_s20⟩ : ∃ z, z = sA s18 7 (upd (gA s18 7) (((2 * x5) + x6).toNatClampNeg) (gA s18 3 p2.toNatClampNeg)) := ⟨_, rfl⟩
            rw [← e_s20] at hP
            have hq := hq s20 e_s20
            refine lv_aload_n hx hb d_MO_call_354 rfl (lv_at hl 4 rfl) ?_
            refine cw_get (C := R_MO) (T := F_MO) (N := 39) (v := .ref (am 11)) hx hb hts (in_MO _) hown hK hP 0 (by decide) rfl rfl 16 (by decide) (ht _ wC_698) rfl d_MO_call_355 ?_
            refine lv_iconst (v := 2) hx hb d_MO_call_358 (by decide) ?_
            refine lv_iload hx hb d_MO_call_359 (lv_at hl 1 rfl) ?_
            refine lv_imul hx hb d_MO_call_361 ?_
            refine lv_iload hx hb d_MO_call_362 (lv_at hl 0 rfl) ?_
            refine lv_iadd hx hb d_MO_call_364 ?_
            refine lv_aload_n hx hb d_MO_call_365 rfl (lv_at hl 4 rfl) ?_
            refine cw_get (C := R_MO) (T := F_MO) (N := 39) (v := .ref (am 17)) hx hb hts (in_MO _) hown hK hP 0 (by decide) rfl rfl 24 (by decide) (ht _ wC_706) rfl d_MO_call_366 ?_
            refine lv_iload_n hx hb d_MO_call_369 rfl (lv_at hl 5 rfl) ?_
            refine cw_iald hx hb hK hP 17 (by decide) rfl 0 rfl hq.1 d_MO_call_370 ?_
            have hq := hq.2
            refine cw_iast hx hb hK hP hi hS 11 (by decide) rfl 0 rfl hq.1 mpa_8 d_MO_call_371 (fun H locs hP hS => ?_)
            have hq := hq.2
            obtain ⟨s21, e_s21⟩ : ∃ z, z = sA s20 8 (upd (gA s20 8) (((2 * x5) + x6).toNatClampNeg) (gA s20 12 p1.toNatClampNeg)) := ⟨_, rfl⟩
            rw [← e_s21] at hP
            have hq := hq s21 e_s21
            refine lv_aload_n hx hb d_MO_call_372 rfl (lv_at hl 4 rfl) ?_
            refine cw_get (C := R_MO) (T := F_MO) (N := 39) (v := .ref (am 15)) hx hb hts (in_MO _) hown hK hP 0 (by decide) rfl rfl 20 (by decide) (ht _ wC_702) rfl d_MO_call_373 ?_
            refine lv_iconst (v := 2) hx hb d_MO_call_376 (by decide) ?_
            refine lv_iload hx hb d_MO_call_377 (lv_at hl 1 rfl) ?_
            refine lv_imul hx hb d_MO_call_379 ?_
            refine lv_iload hx hb d_MO_call_380 (lv_at hl 0 rfl) ?_
            refine lv_iadd hx hb d_MO_call_382 ?_
            refine lv_dconst0 hx hb d_MO_call_383 ?_
            refine cw_dast hx hb hK hP hi hS 15 (by decide) rfl 1 rfl hq.1 mpd_3 d_MO_call_384 (fun H locs hP hS => ?_)
            have hq := hq.2
            obtain ⟨s22, e_s22⟩ : ∃ z, z = sD s21 3 (vf_upd (gD s21 3) (((2 * x5) + x6).toNatClampNeg) FP.dconst0) := ⟨_, rfl⟩
            rw [← e_s22] at hP
            have hq := hq s22 e_s22
            refine lv_iinc (v := x6 + 1) (lv' := [(6, .int (x6 + 1)), (5, .int x5), (4, .int x4), (3, .int x3), (0, .ref (am 0)), (1, .int p1), (2, .int p2)]) hx hb d_MO_call_385 hl (k := 0) rfl rfl (by decide) rfl (fun ls hl => ?_)
            refine lv_goto (tgt := 284) hx hb d_MO_call_388 (by decide) ?_
            exact ih (x6 + 1) x5 x4 x3 s22 _ _ ls hq hP hS (lv_sub hl [0, 1, 2, 3, 4, 5, 6] rfl)
          · have hq := hq.1 c19
            refine lv_aload_n hx hb d_MO_call_338 rfl (lv_at hl 4 rfl) ?_
            refine cw_get (C := R_MO) (T := F_MO) (N := 39) (v := .ref (am 3)) hx hb hts (in_MO _) hown hK hP 0 (by decide) rfl rfl 2 (by decide) (ht _ wC_684) rfl d_MO_call_339 ?_
            refine lv_iload_n hx hb d_MO_call_342 rfl (lv_at hl 6 rfl) ?_
            refine cw_iald hx hb hK hP 3 (by decide) rfl 0 rfl hq.1 d_MO_call_343 ?_
            have hq := hq.2
            refine lv_goto (tgt := 353) hx hb d_MO_call_344 (by decide) ?_
            refine cw_iast hx hb hK hP hi hS 10 (by decide) rfl 0 rfl hq.1 mpa_7 d_MO_call_353 (fun H locs hP hS => ?_)
            have hq := hq.2
            obtain ⟨s23, e_s23⟩ : ∃ z, z = sA s18 7 (upd (gA s18 7) (((2 * x5) + x6).toNatClampNeg) (gA s18 2 p2.toNatClampNeg)) := ⟨_, rfl⟩
            rw [← e_s23] at hP
            have hq := hq s23 e_s23
            refine lv_aload_n hx hb d_MO_call_354 rfl (lv_at hl 4 rfl) ?_
            refine cw_get (C := R_MO) (T := F_MO) (N := 39) (v := .ref (am 11)) hx hb hts (in_MO _) hown hK hP 0 (by decide) rfl rfl 16 (by decide) (ht _ wC_698) rfl d_MO_call_355 ?_
            refine lv_iconst (v := 2) hx hb d_MO_call_358 (by decide) ?_
            refine lv_iload hx hb d_MO_call_359 (lv_at hl 1 rfl) ?_
            refine lv_imul hx hb d_MO_call_361 ?_
            refine lv_iload hx hb d_MO_call_362 (lv_at hl 0 rfl) ?_
            refine lv_iadd hx hb d_MO_call_364 ?_
            refine lv_aload_n hx hb d_MO_call_365 rfl (lv_at hl 4 rfl) ?_
            refine cw_get (C := R_MO) (T := F_MO) (N := 39) (v := .ref (am 17)) hx hb hts (in_MO _) hown hK hP 0 (by decide) rfl rfl 24 (by decide) (ht _ wC_706) rfl d_MO_call_366 ?_
            refine lv_iload_n hx hb d_MO_call_369 rfl (lv_at hl 5 rfl) ?_
            refine cw_iald hx hb hK hP 17 (by decide) rfl 0 rfl hq.1 d_MO_call_370 ?_
            have hq := hq.2
            refine cw_iast hx hb hK hP hi hS 11 (by decide) rfl 0 rfl hq.1 mpa_8 d_MO_call_371 (fun H locs hP hS => ?_)
            have hq := hq.2
            obtain ⟨s24, e_s24⟩ : ∃ z, z = sA s23 8 (upd (gA s23 8) (((2 * x5) + x6).toNatClampNeg) (gA s23 12 p1.toNatClampNeg)) := ⟨_, rfl⟩
            rw [← e_s24] at hP
            have hq := hq s24 e_s24
            refine lv_aload_n hx hb d_MO_call_372 rfl (lv_at hl 4 rfl) ?_
            refine cw_get (C := R_MO) (T := F_MO) (N := 39) (v := .ref (am 15)) hx hb hts (in_MO _) hown hK hP 0 (by decide) rfl rfl 20 (by decide) (ht _ wC_702) rfl d_MO_call_373 ?_
            refine lv_iconst (v := 2) hx hb d_MO_call_376 (by decide) ?_
            refine lv_iload hx hb d_MO_call_377 (lv_at hl 1 rfl) ?_
            refine lv_imul hx hb d_MO_call_379 ?_
            refine lv_iload hx hb d_MO_call_380 (lv_at hl 0 rfl) ?_
            refine lv_iadd hx hb d_MO_call_382 ?_
            refine lv_dconst0 hx hb d_MO_call_383 ?_
            refine cw_dast hx hb hK hP hi hS 15 (by decide) rfl 1 rfl hq.1 mpd_3 d_MO_call_384 (fun H locs hP hS => ?_)
            have hq := hq.2
            obtain ⟨s25, e_s25⟩ : ∃ z, z = sD s24 3 (vf_upd (gD s24 3) (((2 * x5) + x6).toNatClampNeg) FP.dconst0) := ⟨_, rfl⟩
            rw [← e_s25] at hP
            have hq := hq s25 e_s25
            refine lv_iinc (v := x6 + 1) (lv' := [(6, .int (x6 + 1)), (5, .int x5), (4, .int x4), (3, .int x3), (0, .ref (am 0)), (1, .int p1), (2, .int p2)]) hx hb d_MO_call_385 hl (k := 0) rfl rfl (by decide) rfl (fun ls hl => ?_)
            refine lv_goto (tgt := 284) hx hb d_MO_call_388 (by decide) ?_
            exact ih (x6 + 1) x5 x4 x3 s25 _ _ ls hq hP hS (lv_sub hl [0, 1, 2, 3, 4, 5, 6] rfl)
        · have hq := hq.1 c17
          refine lv_aload_n hx hb d_MO_call_306 rfl (lv_at hl 4 rfl) ?_
          refine cw_get (C := R_MO) (T := F_MO) (N := 39) (v := .ref (am 23)) hx hb hts (in_MO _) hown hK hP 0 (by decide) rfl rfl 30 (by decide) (ht _ wC_712) rfl d_MO_call_307 ?_
          refine lv_iload_n hx hb d_MO_call_310 rfl (lv_at hl 5 rfl) ?_
          refine cw_dald hx hb hK hP 23 (by decide) rfl 1 rfl hq.1 d_MO_call_311 ?_
          have hq := hq.2
          refine lv_goto (tgt := 321) hx hb d_MO_call_312 (by decide) ?_
          refine cw_dast hx hb hK hP hi hS 14 (by decide) rfl 1 rfl hq.1 mpd_2 d_MO_call_321 (fun H locs hP hS => ?_)
          have hq := hq.2
          obtain ⟨s26, e_s26⟩ : ∃ z, z = sD σ 2 (vf_upd (gD σ 2) (((2 * x5) + x6).toNatClampNeg) (gD σ 4 p1.toNatClampNeg)) := ⟨_, rfl⟩
          rw [← e_s26] at hP
          have hq := hq s26 e_s26
          refine lv_aload_n hx hb d_MO_call_322 rfl (lv_at hl 4 rfl) ?_
          refine cw_get (C := R_MO) (T := F_MO) (N := 39) (v := .ref (am 10)) hx hb hts (in_MO _) hown hK hP 0 (by decide) rfl rfl 15 (by decide) (ht _ wC_697) rfl d_MO_call_323 ?_
          refine lv_iconst (v := 2) hx hb d_MO_call_326 (by decide) ?_
          refine lv_iload hx hb d_MO_call_327 (lv_at hl 1 rfl) ?_
          refine lv_imul hx hb d_MO_call_329 ?_
          refine lv_iload hx hb d_MO_call_330 (lv_at hl 0 rfl) ?_
          refine lv_iadd hx hb d_MO_call_332 ?_
          refine lv_iload hx hb d_MO_call_333 (lv_at hl 0 rfl) ?_
          refine lv_if_ne (tgt := 347) hx hb d_MO_call_335 (by decide) (fun c27 => ?_) (fun c27 => ?_)
          · have hq := hq.2 c27
            refine lv_aload_n hx hb d_MO_call_347 rfl (lv_at hl 4 rfl) ?_
            refine cw_get (C := R_MO) (T := F_MO) (N := 39) (v := .ref (am 4)) hx hb hts (in_MO _) hown hK hP 0 (by decide) rfl rfl 3 (by decide) (ht _ wC_685) rfl d_MO_call_348 ?_
            refine lv_iload_n hx hb d_MO_call_351 rfl (lv_at hl 6 rfl) ?_
            refine cw_iald hx hb hK hP 4 (by decide) rfl 0 rfl hq.1 d_MO_call_352 ?_
            have hq := hq.2
            refine cw_iast hx hb hK hP hi hS 10 (by decide) rfl 0 rfl hq.1 mpa_7 d_MO_call_353 (fun H locs hP hS => ?_)
            have hq := hq.2
            obtain ⟨s28, e_s28⟩ : ∃ z, z = sA s26 7 (upd (gA s26 7) (((2 * x5) + x6).toNatClampNeg) (gA s26 3 p2.toNatClampNeg)) := ⟨_, rfl⟩
            rw [← e_s28] at hP
            have hq := hq s28 e_s28
            refine lv_aload_n hx hb d_MO_call_354 rfl (lv_at hl 4 rfl) ?_
            refine cw_get (C := R_MO) (T := F_MO) (N := 39) (v := .ref (am 11)) hx hb hts (in_MO _) hown hK hP 0 (by decide) rfl rfl 16 (by decide) (ht _ wC_698) rfl d_MO_call_355 ?_
            refine lv_iconst (v := 2) hx hb d_MO_call_358 (by decide) ?_
            refine lv_iload hx hb d_MO_call_359 (lv_at hl 1 rfl) ?_
            refine lv_imul hx hb d_MO_call_361 ?_
            refine lv_iload hx hb d_MO_call_362 (lv_at hl 0 rfl) ?_
            refine lv_iadd hx hb d_MO_call_364 ?_
            refine lv_aload_n hx hb d_MO_call_365 rfl (lv_at hl 4 rfl) ?_
            refine cw_get (C := R_MO) (T := F_MO) (N := 39) (v := .ref (am 17)) hx hb hts (in_MO _) hown hK hP 0 (by decide) rfl rfl 24 (by decide) (ht _ wC_706) rfl d_MO_call_366 ?_
            refine lv_iload_n hx hb d_MO_call_369 rfl (lv_at hl 5 rfl) ?_
            refine cw_iald hx hb hK hP 17 (by decide) rfl 0 rfl hq.1 d_MO_call_370 ?_
            have hq := hq.2
            refine cw_iast hx hb hK hP hi hS 11 (by decide) rfl 0 rfl hq.1 mpa_8 d_MO_call_371 (fun H locs hP hS => ?_)
            have hq := hq.2
            obtain ⟨s29, e_s29⟩ : ∃ z, z = sA s28 8 (upd (gA s28 8) (((2 * x5) + x6).toNatClampNeg) (gA s28 12 p1.toNatClampNeg)) := ⟨_, rfl⟩
            rw [← e_s29] at hP
            have hq := hq s29 e_s29
            refine lv_aload_n hx hb d_MO_call_372 rfl (lv_at hl 4 rfl) ?_
            refine cw_get (C := R_MO) (T := F_MO) (N := 39) (v := .ref (am 15)) hx hb hts (in_MO _) hown hK hP 0 (by decide) rfl rfl 20 (by decide) (ht _ wC_702) rfl d_MO_call_373 ?_
            refine lv_iconst (v := 2) hx hb d_MO_call_376 (by decide) ?_
            refine lv_iload hx hb d_MO_call_377 (lv_at hl 1 rfl) ?_
            refine lv_imul hx hb d_MO_call_379 ?_
            refine lv_iload hx hb d_MO_call_380 (lv_at hl 0 rfl) ?_
            refine lv_iadd hx hb d_MO_call_382 ?_
            refine lv_dconst0 hx hb d_MO_call_383 ?_
            refine cw_dast hx hb hK hP hi hS 15 (by decide) rfl 1 rfl hq.1 mpd_3 d_MO_call_384 (fun H locs hP hS => ?_)
            have hq := hq.2
            obtain ⟨s30, e_s30⟩ : ∃ z, z = sD s29 3 (vf_upd (gD s29 3) (((2 * x5) + x6).toNatClampNeg) FP.dconst0) := ⟨_, rfl⟩
            rw [← e_s30] at hP
            have hq := hq s30 e_s30
            refine lv_iinc (v := x6 + 1) (lv' := [(6, .int (x6 + 1)), (5, .int x5), (4, .int x4), (3, .int x3), (0, .ref (am 0)), (1, .int p1), (2, .int p2)]) hx hb d_MO_call_385 hl (k := 0) rfl rfl (by decide) rfl (fun ls hl => ?_)
            refine lv_goto (tgt := 284) hx hb d_MO_call_388 (by decide) ?_
            exact ih (x6 + 1) x5 x4 x3 s30 _ _ ls hq hP hS (lv_sub hl [0, 1, 2, 3, 4, 5, 6] rfl)
          · have hq := hq.1 c27
            refine lv_aload_n hx hb d_MO_call_338 rfl (lv_at hl 4 rfl) ?_
            refine cw_get (C := R_MO) (T := F_MO) (N := 39) (v := .ref (am 3)) hx hb hts (in_MO _) hown hK hP 0 (by decide) rfl rfl 2 (by decide) (ht _ wC_684) rfl d_MO_call_339 ?_
            refine lv_iload_n hx hb d_MO_call_342 rfl (lv_at hl 6 rfl) ?_
            refine cw_iald hx hb hK hP 3 (by decide) rfl 0 rfl hq.1 d_MO_call_343 ?_
            have hq := hq.2
            refine lv_goto (tgt := 353) hx hb d_MO_call_344 (by decide) ?_
            refine cw_iast hx hb hK hP hi hS 10 (by decide) rfl 0 rfl hq.1 mpa_7 d_MO_call_353 (fun H locs hP hS => ?_)
            have hq := hq.2
            obtain ⟨s31, e_s31⟩ : ∃ z, z = sA s26 7 (upd (gA s26 7) (((2 * x5) + x6).toNatClampNeg) (gA s26 2 p2.toNatClampNeg)) := ⟨_, rfl⟩
            rw [← e_s31] at hP
            have hq := hq s31 e_s31
            refine lv_aload_n hx hb d_MO_call_354 rfl (lv_at hl 4 rfl) ?_
            refine cw_get (C := R_MO) (T := F_MO) (N := 39) (v := .ref (am 11)) hx hb hts (in_MO _) hown hK hP 0 (by decide) rfl rfl 16 (by decide) (ht _ wC_698) rfl d_MO_call_355 ?_
            refine lv_iconst (v := 2) hx hb d_MO_call_358 (by decide) ?_
            refine lv_iload hx hb d_MO_call_359 (lv_at hl 1 rfl) ?_
            refine lv_imul hx hb d_MO_call_361 ?_
            refine lv_iload hx hb d_MO_call_362 (lv_at hl 0 rfl) ?_
            refine lv_iadd hx hb d_MO_call_364 ?_
            refine lv_aload_n hx hb d_MO_call_365 rfl (lv_at hl 4 rfl) ?_
            refine cw_get (C := R_MO) (T := F_MO) (N := 39) (v := .ref (am 17)) hx hb hts (in_MO _) hown hK hP 0 (by decide) rfl rfl 24 (by decide) (ht _ wC_706) rfl d_MO_call_366 ?_
            refine lv_iload_n hx hb d_MO_call_369 rfl (lv_at hl 5 rfl) ?_
            refine cw_iald hx hb hK hP 17 (by decide) rfl 0 rfl hq.1 d_MO_call_370 ?_
            have hq := hq.2
            refine cw_iast hx hb hK hP hi hS 11 (by decide) rfl 0 rfl hq.1 mpa_8 d_MO_call_371 (fun H locs hP hS => ?_)
            have hq := hq.2
            obtain ⟨s32, e_s32⟩ : ∃ z, z = sA s31 8 (upd (gA s31 8) (((2 * x5) + x6).toNatClampNeg) (gA s31 12 p1.toNatClampNeg)) := ⟨_, rfl⟩
            rw [← e_s32] at hP
            have hq := hq s32 e_s32
            refine lv_aload_n hx hb d_MO_call_372 rfl (lv_at hl 4 rfl) ?_
            refine cw_get (C := R_MO) (T := F_MO) (N := 39) (v := .ref (am 15)) hx hb hts (in_MO _) hown hK hP 0 (by decide) rfl rfl 20 (by decide) (ht _ wC_702) rfl d_MO_call_373 ?_
            refine lv_iconst (v := 2) hx hb d_MO_call_376 (by decide) ?_
            refine lv_iload hx hb d_MO_call_377 (lv_at hl 1 rfl) ?_
            refine lv_imul hx hb d_MO_call_379 ?_
            refine lv_iload hx hb d_MO_call_380 (lv_at hl 0 rfl) ?_
            refine lv_iadd hx hb d_MO_call_382 ?_
            refine lv_dconst0 hx hb d_MO_call_383 ?_
            refine cw_dast hx hb hK hP hi hS 15 (by decide) rfl 1 rfl hq.1 mpd_3 d_MO_call_384 (fun H locs hP hS => ?_)
            have hq := hq.2
            obtain ⟨s33, e_s33⟩ : ∃ z, z = sD s32 3 (vf_upd (gD s32 3) (((2 * x5) + x6).toNatClampNeg) FP.dconst0) := ⟨_, rfl⟩
            rw [← e_s33] at hP
            have hq := hq s33 e_s33
            refine lv_iinc (v := x6 + 1) (lv' := [(6, .int (x6 + 1)), (5, .int x5), (4, .int x4), (3, .int x3), (0, .ref (am 0)), (1, .int p1), (2, .int p2)]) hx hb d_MO_call_385 hl (k := 0) rfl rfl (by decide) rfl (fun ls hl => ?_)
            refine lv_goto (tgt := 284) hx hb d_MO_call_388 (by decide) ?_
            exact ih (x6 + 1) x5 x4 x3 s33 _ _ ls hq hP hS (lv_sub hl [0, 1, 2, 3, 4, 5, 6] rfl)
  have loop_124 : ∀ (k : Nat) (x5 : Int32) (x4 : Int32) (x3 : Int32) (σ : CS) (H : Heap) (locs : List Loc) (ls : Array Slot), lp_MO_call_124 p1 p2 Q k x5 x4 x3 σ → va_P D clA (wd am (contM am cs σ) 25) H → va_S (aK am 25) s.heap H locs → lv_has ls 7 [(5, .int x5), (4, .int x4), (3, .int x3), (0, .ref (am 0)), (1, .int p1), (2, .int p2)] → W p l e (headSpec (.code y_MO_call b_MO_call 7 none :: wC) ({ frames := 2, cells := 0, slots := 0, locals := 43 })).room s m ([.ref (am 0), .int p1, .int p2] : List Value).toArray below meth c H locs 0 0 (MQ below (va_Qv Q (mP D cs am) (aK am 25)) ([.ref (am 0), .int p1, .int p2] : List Value).toArray s 0 0 (aK am 25)) (F0 m 124 ls []) := by
    intro k
    induction k with
    | zero => intro x5 x4 x3 σ H locs ls hq; exact hq.elim
    | succ k ih =>
      intro x5 x4 x3 σ H locs ls hq hP hS hl
      unfold lp_MO_call_124 at hq
      refine lv_iload hx hb d_MO_call_124 (lv_at hl 0 rfl) ?_
      refine lv_aload_n hx hb d_MO_call_126 rfl (lv_at hl 3 rfl) ?_
      refine cw_get (C := R_MO) (T := F_MO) (N := 39) (v := .ref (am 6)) hx hb hts (in_MO _) hown hK hP 0 (by decide) rfl rfl 5 (by decide) (ht _ wC_687) rfl d_MO_call_127 ?_
      refine lv_iload_n hx hb d_MO_call_130 rfl (lv_at hl 2 rfl) ?_
      refine cw_iald hx hb hK hP 6 (by decide) rfl 0 rfl hq.1 d_MO_call_131 ?_
      have hq := hq.2
      refine lv_icmp_ge (tgt := 217) hx hb d_MO_call_132 (by decide) (fun c5 => ?_) (fun c5 => ?_)
      · have hq := hq.1 c5
        refine lv_aload_n hx hb d_MO_call_217 rfl (lv_at hl 3 rfl) ?_
        refine va_callv (va_runV (As := []) (rest := []) ⟨hx, hb, hml, hown, hts⟩ (c_MO_deeper (D := D) (cs := cs) hi hq) (cwV 0 hts (good_V wC_880 wC_882 wC_33 wC_50 wC_883) rfl rfl rfl (by decide +kernel) ⟨(show 1 + 1 ≤ 2 by omega), (show 8 + (1 + 11) + 21 ≤ 43 by omega)⟩) ⟨mP_blind, va_recv hK hP (ci := 5) (q0 := 0) rfl (wd_at (by decide) rfl), fun U hU hW => ⟨rfl, by rw [hU]; exact hP, va_K.moved hW.alike hK, hN.warm hW⟩⟩ rfl rfl hl.1 rfl (lv_room (Nat.le_of_ble_eq_true rfl)) d_MO_call_218 ⟨Nat.le_of_ble_eq_true rfl, Nat.le_of_ble_eq_true rfl⟩) hS (fun q _ h => h) (fun q h => h) (fun s7 t H locs ht0 hvm hq hB hz1 hk1 hS => ?_)
        obtain ⟨hP, -, -⟩ := hB
        rw [ht0] at hP
        refine lv_aload_n hx hb d_MO_call_221 rfl (lv_at hl 3 rfl) ?_
        refine cw_get (C := R_MO) (T := F_MO) (N := 39) (v := .int (gI s7 10)) hx hb hts (in_MO _) hown hK hP 0 (by decide) rfl rfl 34 (by decide) (ht _ wC_716) rfl d_MO_call_222 ?_
        refine lv_if_le (tgt := 229) hx hb d_MO_call_225 (by decide) (fun c8 => ?_) (fun c8 => ?_)
        · have hq := hq.1 c8
          refine lv_aload_n hx hb d_MO_call_229 rfl (lv_at hl 3 rfl) ?_
          refine lv_dup hx hb d_MO_call_230 rfl ?_
          refine cw_get (C := R_MO) (T := F_MO) (N := 39) (v := .int (gI s7 6)) hx hb hts (in_MO _) hown hK hP 0 (by decide) rfl rfl 21 (by decide) (ht _ wC_703) rfl d_MO_call_231 ?_
          refine lv_iconst (v := 1) hx hb d_MO_call_234 (by decide) ?_
          refine lv_iadd hx hb d_MO_call_235 ?_
          refine cw_put (C := R_MO) (T := F_MO) (N := 39) (ty := .int) (v := .int ((gI s7 6) + 1)) hx hb hts (in_MO _) t_MO tok_MO n_MO hown hK hP hi hS 0 (by decide) rfl rfl 21 (by decide) (ht _ wC_703) rfl (by decide +kernel) rfl rfl (Nat.le_of_ble_eq_true rfl) up_MO_environments d_MO_call_236 (fun H locs hP hS => ?_)
          obtain ⟨s9, e_s9⟩ : ∃ z, z = sI s7 6 ((gI s7 6) + 1) := ⟨_, rfl⟩
          rw [← e_s9] at hP
          have hq := hq s9 e_s9
          refine lv_aload_n hx hb d_MO_call_239 rfl (lv_at hl 3 rfl) ?_
          refine cw_get (C := R_MO) (T := F_MO) (N := 39) (v := .int (gI s9 6)) hx hb hts (in_MO _) hown hK hP 0 (by decide) rfl rfl 21 (by decide) (ht _ wC_703) rfl d_MO_call_240 ?_
          refine lv_istore (lv' := [(5, .int (gI s9 6)), (4, .int x4), (3, .int x3), (0, .ref (am 0)), (1, .int p1), (2, .int p2)]) hx hb d_MO_call_243 hl (by decide) rfl (fun ls hl => ?_)
          refine lv_aload_n hx hb d_MO_call_245 rfl (lv_at hl 3 rfl) ?_
          refine lv_dup hx hb d_MO_call_246 rfl ?_
          refine cw_get (C := R_MO) (T := F_MO) (N := 39) (v := .int (gI s9 11)) hx hb hts (in_MO _) hown hK hP 0 (by decide) rfl rfl 35 (by decide) (ht _ wC_717) rfl d_MO_call_247 ?_
          refine lv_iconst (v := 1) hx hb d_MO_call_250 (by decide) ?_
          refine lv_iadd hx hb d_MO_call_251 ?_
          refine cw_put (C := R_MO) (T := F_MO) (N := 39) (ty := .int) (v := .int ((gI s9 11) + 1)) hx hb hts (in_MO _) t_MO tok_MO n_MO hown hK hP hi hS 0 (by decide) rfl rfl 35 (by decide) (ht _ wC_717) rfl (by decide +kernel) rfl rfl (Nat.le_of_ble_eq_true rfl) up_MO_calls d_MO_call_252 (fun H locs hP hS => ?_)
          obtain ⟨s10, e_s10⟩ : ∃ z, z = sI s9 11 ((gI s9 11) + 1) := ⟨_, rfl⟩
          rw [← e_s10] at hP
          have hq := hq s10 e_s10
          refine lv_aload_n hx hb d_MO_call_255 rfl (lv_at hl 3 rfl) ?_
          refine cw_get (C := R_MO) (T := F_MO) (N := 39) (v := .ref (am 12)) hx hb hts (in_MO _) hown hK hP 0 (by decide) rfl rfl 17 (by decide) (ht _ wC_699) rfl d_MO_call_256 ?_
          refine lv_iload hx hb d_MO_call_259 (lv_at hl 0 rfl) ?_
          refine lv_aload_n hx hb d_MO_call_261 rfl (lv_at hl 3 rfl) ?_
          refine cw_get (C := R_MO) (T := F_MO) (N := 39) (v := .ref (am 6)) hx hb hts (in_MO _) hown hK hP 0 (by decide) rfl rfl 5 (by decide) (ht _ wC_687) rfl d_MO_call_262 ?_
          refine lv_iload_n hx hb d_MO_call_265 rfl (lv_at hl 2 rfl) ?_
          refine cw_iald hx hb hK hP 6 (by decide) rfl 0 rfl hq.1 d_MO_call_266 ?_
          have hq := hq.2
          refine cw_iast hx hb hK hP hi hS 12 (by decide) rfl 0 rfl hq.1 mpa_9 d_MO_call_267 (fun H locs hP hS => ?_)
          have hq := hq.2
          obtain ⟨s11, e_s11⟩ : ∃ z, z = sA s10 9 (upd (gA s10 9) ((gI s9 6).toNatClampNeg) (gA s10 5 x3.toNatClampNeg)) := ⟨_, rfl⟩
          rw [← e_s11] at hP
          have hq := hq s11 e_s11
          refine lv_aload_n hx hb d_MO_call_268 rfl (lv_at hl 3 rfl) ?_
          refine cw_get (C := R_MO) (T := F_MO) (N := 39) (v := .ref (am 13)) hx hb hts (in_MO _) hown hK hP 0 (by decide) rfl rfl 18 (by decide) (ht _ wC_700) rfl d_MO_call_269 ?_
          refine lv_iload hx hb d_MO_call_272 (lv_at hl 0 rfl) ?_
          refine lv_aload_n hx hb d_MO_call_274 rfl (lv_at hl 3 rfl) ?_
          refine cw_get (C := R_MO) (T := F_MO) (N := 39) (v := .ref (am 7)) hx hb hts (in_MO _) hown hK hP 0 (by decide) rfl rfl 6 (by decide) (ht _ wC_688) rfl d_MO_call_275 ?_
          refine lv_iload_n hx hb d_MO_call_278 rfl (lv_at hl 2 rfl) ?_
          refine cw_iald hx hb hK hP 7 (by decide) rfl 0 rfl hq.1 d_MO_call_279 ?_
          have hq := hq.2
          refine cw_iast hx hb hK hP hi hS 13 (by decide) rfl 0 rfl hq.1 mpa_10 d_MO_call_280 (fun H locs hP hS => ?_)
          have hq := hq.2
          obtain ⟨s12, e_s12⟩ : ∃ z, z = sA s11 10 (upd (gA s11 10) ((gI s9 6).toNatClampNeg) (gA s11 6 x3.toNatClampNeg)) := ⟨_, rfl⟩
          rw [← e_s12] at hP
          have hq := hq s12 e_s12
          refine lv_iconst (v := 0) hx hb d_MO_call_281 (by decide) ?_
          refine lv_istore (lv' := [(6, .int 0), (5, .int (gI s9 6)), (4, .int x4), (3, .int x3), (0, .ref (am 0)), (1, .int p1), (2, .int p2)]) hx hb d_MO_call_282 hl (by decide) rfl (fun ls hl => ?_)
          obtain ⟨fu, hq⟩ := hq
          exact loop_284 fu 0 (gI s9 6) x4 x3 s12 _ _ ls hq hP hS (lv_sub hl [0, 1, 2, 3, 4, 5, 6] rfl)
        · have hq := hq.2 c8
          exact W.vret hx hb hr (fun t ht hW => ⟨⟨s7, rfl, hq, by rw [ht]; exact hP, va_K.moved hW.alike hK, hN.warm hW⟩, hS.F ht⟩) hS.2.2 d_MO_call_228
      · have hq := hq.2 c5
        refine lv_aload_n hx hb d_MO_call_135 rfl (lv_at hl 3 rfl) ?_
        refine cw_get (C := R_MO) (T := F_MO) (N := 39) (v := .ref (am 7)) hx hb hts (in_MO _) hown hK hP 0 (by decide) rfl rfl 6 (by decide) (ht _ wC_688) rfl d_MO_call_136 ?_
        refine lv_iload_n hx hb d_MO_call_139 rfl (lv_at hl 2 rfl) ?_
        refine cw_iald hx hb hK hP 7 (by decide) rfl 0 rfl hq.1 d_MO_call_140 ?_
        have hq := hq.2
        refine lv_iload hx hb d_MO_call_141 (lv_at hl 0 rfl) ?_
        refine lv_ishr hx hb d_MO_call_143 ?_
        refine lv_iconst (v := 1) hx hb d_MO_call_144 (by decide) ?_
        refine lv_iand hx hb d_MO_call_145 ?_
        refine lv_iconst (v := 1) hx hb d_MO_call_146 (by decide) ?_
        refine lv_icmp_ne (tgt := 153) hx hb d_MO_call_147 (by decide) (fun c34 => ?_) (fun c34 => ?_)
        · have hq := hq.2 c34
          refine lv_iload hx hb d_MO_call_153 (lv_at hl 0 rfl) ?_
          refine lv_if_ne (tgt := 167) hx hb d_MO_call_155 (by decide) (fun c35 => ?_) (fun c35 => ?_)
          · have hq := hq.2 c35
            refine lv_aload_n hx hb d_MO_call_167 rfl (lv_at hl 3 rfl) ?_
            refine cw_get (C := R_MO) (T := F_MO) (N := 39) (v := .ref (am 4)) hx hb hts (in_MO _) hown hK hP 0 (by decide) rfl rfl 3 (by decide) (ht _ wC_685) rfl d_MO_call_168 ?_
            refine lv_iload_n hx hb d_MO_call_171 rfl (lv_at hl 5 rfl) ?_
            refine cw_iald hx hb hK hP 4 (by decide) rfl 0 rfl hq.1 d_MO_call_172 ?_
            have hq := hq.2
            refine lv_istore (lv' := [(6, .int (gA σ 3 p2.toNatClampNeg)), (5, .int x5), (4, .int x4), (3, .int x3), (0, .ref (am 0)), (1, .int p1), (2, .int p2)]) hx hb d_MO_call_173 hl (by decide) rfl (fun ls hl => ?_)
            refine lv_aload_n hx hb d_MO_call_175 rfl (lv_at hl 4 rfl) ?_
            refine cw_get (C := R_MO) (T := F_MO) (N := 39) (v := .ref (am 18)) hx hb hts (in_MO _) hown hK hP 0 (by decide) rfl rfl 25 (by decide) (ht _ wC_707) rfl d_MO_call_176 ?_
            refine lv_iload_n hx hb d_MO_call_179 rfl (lv_at hl 5 rfl) ?_
            refine lv_iload hx hb d_MO_call_180 (lv_at hl 1 rfl) ?_
            refine lv_iconst (v := 1) hx hb d_MO_call_182 (by decide) ?_
            refine lv_iadd hx hb d_MO_call_183 ?_
            refine cw_iast hx hb hK hP hi hS 18 (by decide) rfl 0 rfl hq.1 mpa_13 d_MO_call_184 (fun H locs hP hS => ?_)
            have hq := hq.2
            obtain ⟨s36, e_s36⟩ : ∃ z, z = sA σ 13 (upd (gA σ 13) p1.toNatClampNeg (x5 + 1)) := ⟨_, rfl⟩
            rw [← e_s36] at hP
            have hq := hq s36 e_s36
            refine lv_iload hx hb d_MO_call_185 (lv_at hl 0 rfl) ?_
            refine lv_if_ge (tgt := 198) hx hb d_MO_call_187 (by decide) (fun c37 => ?_) (fun c37 => ?_)
            · have hq := hq.1 c37
              refine lv_aload_n hx hb d_MO_call_198 rfl (lv_at hl 4 rfl) ?_
              refine lv_iload hx hb d_MO_call_199 (lv_at hl 0 rfl) ?_
              refine lv_aload_n hx hb d_MO_call_201 rfl (lv_at hl 4 rfl) ?_
              refine cw_get (C := R_MO) (T := F_MO) (N := 39) (v := .ref (am 17)) hx hb hts (in_MO _) hown hK hP 0 (by decide) rfl rfl 24 (by decide) (ht _ wC_706) rfl d_MO_call_202 ?_
              refine lv_iload_n hx hb d_MO_call_205 rfl (lv_at hl 5 rfl) ?_
              refine cw_iald hx hb hK hP 17 (by decide) rfl 0 rfl hq.1 d_MO_call_206 ?_
              have hq := hq.2
              refine va_callv (va_runV (As := [.int (gA σ 3 p2.toNatClampNeg), .int (gA s36 12 p1.toNatClampNeg)]) (rest := []) ⟨hx, hb, hml, hown, hts⟩ (c_MO_enter (D := D) (cs := cs) hi hq) (cwV 2 hts (good_V wC_851 wC_853 wC_26 wC_50 wC_854) rfl rfl rfl (by decide +kernel) ⟨(show 1 + 1 ≤ 2 by omega), (show 8 + (3 + 11) + 21 ≤ 43 by omega)⟩) ⟨mP_blind, va_recv hK hP (ci := 5) (q0 := 0) rfl (wd_at (by decide) rfl), fun U hU hW => ⟨rfl, by rw [hU]; exact hP, va_K.moved hW.alike hK, hN.warm hW⟩⟩ rfl rfl hl.1 rfl (lv_room (Nat.le_of_ble_eq_true rfl)) d_MO_call_207 ⟨Nat.le_of_ble_eq_true rfl, Nat.le_of_ble_eq_true rfl⟩) hS (fun q _ h => h) (fun q h => h) (fun s39 t H locs ht0 hvm hq hB hz1 hk1 hS => ?_)
              obtain ⟨hP, -, -⟩ := hB
              rw [ht0] at hP
              exact W.vret hx hb hr (fun t ht hW => ⟨⟨s39, rfl, hq, by rw [ht]; exact hP, va_K.moved hW.alike hK, hN.warm hW⟩, hS.F ht⟩) hS.2.2 d_MO_call_210
            · have hq := hq.2 c37
              refine lv_aload_n hx hb d_MO_call_190 rfl (lv_at hl 4 rfl) ?_
              refine lv_iconst (v := 4) hx hb d_MO_call_191 (by decide) ?_
              refine va_callv (va_runV (As := [.int 4]) (rest := []) ⟨hx, hb, hml, hown, hts⟩ (c_MO_wrong (D := D) (cs := cs) hi hq) (cwV 1 hts (good_V wC_855 wC_857 wC_27 wC_50 wC_858) rfl rfl rfl (by decide +kernel) ⟨(show 0 + 1 ≤ 2 by omega), (show 8 + (2 + 11) + 0 ≤ 43 by omega)⟩) ⟨mP_blind, va_recv hK hP (ci := 5) (q0 := 0) rfl (wd_at (by decide) rfl), fun U hU hW => ⟨rfl, by rw [hU]; exact hP, va_K.moved hW.alike hK, hN.warm hW⟩⟩ rfl rfl hl.1 rfl (lv_room (Nat.le_of_ble_eq_true rfl)) d_MO_call_192 ⟨Nat.le_of_ble_eq_true rfl, Nat.le_of_ble_eq_true rfl⟩) hS (fun q _ h => h) (fun q h => h) (fun s41 t H locs ht0 hvm hq hB hz1 hk1 hS => ?_)
              obtain ⟨hP, -, -⟩ := hB
              rw [ht0] at hP
              refine lv_goto (tgt := 210) hx hb d_MO_call_195 (by decide) ?_
              exact W.vret hx hb hr (fun t ht hW => ⟨⟨s41, rfl, hq, by rw [ht]; exact hP, va_K.moved hW.alike hK, hN.warm hW⟩, hS.F ht⟩) hS.2.2 d_MO_call_210
          · have hq := hq.1 c35
            refine lv_aload_n hx hb d_MO_call_158 rfl (lv_at hl 3 rfl) ?_
            refine cw_get (C := R_MO) (T := F_MO) (N := 39) (v := .ref (am 3)) hx hb hts (in_MO _) hown hK hP 0 (by decide) rfl rfl 2 (by decide) (ht _ wC_684) rfl d_MO_call_159 ?_
            refine lv_iload_n hx hb d_MO_call_162 rfl (lv_at hl 5 rfl) ?_
            refine cw_iald hx hb hK hP 3 (by decide) rfl 0 rfl hq.1 d_MO_call_163 ?_
            have hq := hq.2
            refine lv_goto (tgt := 173) hx hb d_MO_call_164 (by decide) ?_
            refine lv_istore (lv' := [(6, .int (gA σ 2 p2.toNatClampNeg)), (5, .int x5), (4, .int x4), (3, .int x3), (0, .ref (am 0)), (1, .int p1), (2, .int p2)]) hx hb d_MO_call_173 hl (by decide) rfl (fun ls hl => ?_)
            refine lv_aload_n hx hb d_MO_call_175 rfl (lv_at hl 4 rfl) ?_
            refine cw_get (C := R_MO) (T := F_MO) (N := 39) (v := .ref (am 18)) hx hb hts (in_MO _) hown hK hP 0 (by decide) rfl rfl 25 (by decide) (ht _ wC_707) rfl d_MO_call_176 ?_
            refine lv_iload_n hx hb d_MO_call_179 rfl (lv_at hl 5 rfl) ?_
            refine lv_iload hx hb d_MO_call_180 (lv_at hl 1 rfl) ?_
            refine lv_iconst (v := 1) hx hb d_MO_call_182 (by decide) ?_
            refine lv_iadd hx hb d_MO_call_183 ?_
            refine cw_iast hx hb hK hP hi hS 18 (by decide) rfl 0 rfl hq.1 mpa_13 d_MO_call_184 (fun H locs hP hS => ?_)
            have hq := hq.2
            obtain ⟨s42, e_s42⟩ : ∃ z, z = sA σ 13 (upd (gA σ 13) p1.toNatClampNeg (x5 + 1)) := ⟨_, rfl⟩
            rw [← e_s42] at hP
            have hq := hq s42 e_s42
            refine lv_iload hx hb d_MO_call_185 (lv_at hl 0 rfl) ?_
            refine lv_if_ge (tgt := 198) hx hb d_MO_call_187 (by decide) (fun c43 => ?_) (fun c43 => ?_)
            · have hq := hq.1 c43
              refine lv_aload_n hx hb d_MO_call_198 rfl (lv_at hl 4 rfl) ?_
              refine lv_iload hx hb d_MO_call_199 (lv_at hl 0 rfl) ?_
              refine lv_aload_n hx hb d_MO_call_201 rfl (lv_at hl 4 rfl) ?_
              refine cw_get (C := R_MO) (T := F_MO) (N := 39) (v := .ref (am 17)) hx hb hts (in_MO _) hown hK hP 0 (by decide) rfl rfl 24 (by decide) (ht _ wC_706) rfl d_MO_call_202 ?_
              refine lv_iload_n hx hb d_MO_call_205 rfl (lv_at hl 5 rfl) ?_
              refine cw_iald hx hb hK hP 17 (by decide) rfl 0 rfl hq.1 d_MO_call_206 ?_
              have hq := hq.2
              refine va_callv (va_runV (As := [.int (gA σ 2 p2.toNatClampNeg), .int (gA s42 12 p1.toNatClampNeg)]) (rest := []) ⟨hx, hb, hml, hown, hts⟩ (c_MO_enter (D := D) (cs := cs) hi hq) (cwV 2 hts (good_V wC_851 wC_853 wC_26 wC_50 wC_854) rfl rfl rfl (by decide +kernel) ⟨(show 1 + 1 ≤ 2 by omega), (show 8 + (3 + 11) + 21 ≤ 43 by omega)⟩) ⟨mP_blind, va_recv hK hP (ci := 5) (q0 := 0) rfl (wd_at (by decide) rfl), fun U hU hW => ⟨rfl, by rw [hU]; exact hP, va_K.moved hW.alike hK, hN.warm hW⟩⟩ rfl rfl hl.1 rfl (lv_room (Nat.le_of_ble_eq_true rfl)) d_MO_call_207 ⟨Nat.le_of_ble_eq_true rfl, Nat.le_of_ble_eq_true rfl⟩) hS (fun q _ h => h) (fun q h => h) (fun s45 t H locs ht0 hvm hq hB hz1 hk1 hS => ?_)
              obtain ⟨hP, -, -⟩ := hB
              rw [ht0] at hP
              exact W.vret hx hb hr (fun t ht hW => ⟨⟨s45, rfl, hq, by rw [ht]; exact hP, va_K.moved hW.alike hK, hN.warm hW⟩, hS.F ht⟩) hS.2.2 d_MO_call_210
            · have hq := hq.2 c43
              refine lv_aload_n hx hb d_MO_call_190 rfl (lv_at hl 4 rfl) ?_
              refine lv_iconst (v := 4) hx hb d_MO_call_191 (by decide) ?_
              refine va_callv (va_runV (As := [.int 4]) (rest := []) ⟨hx, hb, hml, hown, hts⟩ (c_MO_wrong (D := D) (cs := cs) hi hq) (cwV 1 hts (good_V wC_855 wC_857 wC_27 wC_50 wC_858) rfl rfl rfl (by decide +kernel) ⟨(show 0 + 1 ≤ 2 by omega), (show 8 + (2 + 11) + 0 ≤ 43 by omega)⟩) ⟨mP_blind, va_recv hK hP (ci := 5) (q0 := 0) rfl (wd_at (by decide) rfl), fun U hU hW => ⟨rfl, by rw [hU]; exact hP, va_K.moved hW.alike hK, hN.warm hW⟩⟩ rfl rfl hl.1 rfl (lv_room (Nat.le_of_ble_eq_true rfl)) d_MO_call_192 ⟨Nat.le_of_ble_eq_true rfl, Nat.le_of_ble_eq_true rfl⟩) hS (fun q _ h => h) (fun q h => h) (fun s47 t H locs ht0 hvm hq hB hz1 hk1 hS => ?_)
              obtain ⟨hP, -, -⟩ := hB
              rw [ht0] at hP
              refine lv_goto (tgt := 210) hx hb d_MO_call_195 (by decide) ?_
              exact W.vret hx hb hr (fun t ht hW => ⟨⟨s47, rfl, hq, by rw [ht]; exact hP, va_K.moved hW.alike hK, hN.warm hW⟩, hS.F ht⟩) hS.2.2 d_MO_call_210
        · have hq := hq.1 c34
          refine lv_goto (tgt := 211) hx hb d_MO_call_150 (by decide) ?_
          refine lv_iinc (v := x5 + 1) (lv' := [(5, .int (x5 + 1)), (4, .int x4), (3, .int x3), (0, .ref (am 0)), (1, .int p1), (2, .int p2)]) hx hb d_MO_call_211 hl (k := 0) rfl rfl (by decide) rfl (fun ls hl => ?_)
          refine lv_goto (tgt := 124) hx hb d_MO_call_214 (by decide) ?_
          exact ih (x5 + 1) x4 x3 σ _ _ ls hq hP hS (lv_sub hl [0, 1, 2, 3, 4, 5] rfl)
  refine lv_aload_n hx hb d_MO_call_0 rfl (lv_at hl 0 rfl) ?_
  refine cw_get (C := R_MO) (T := F_MO) (N := 39) (v := .ref (am 2)) hx hb hts (in_MO _) hown hK hP 0 (by decide) rfl rfl 1 (by decide) (ht _ wC_683) rfl d_MO_call_1 ?_
  refine lv_iload_n hx hb d_MO_call_4 rfl (lv_at hl 2 rfl) ?_
  refine cw_iald hx hb hK hP 2 (by decide) rfl 0 rfl hq.1 d_MO_call_5 ?_
  have hq := hq.2
  refine lv_istore_n (lv' := [(3, .int (gA σ 1 p2.toNatClampNeg)), (0, .ref (am 0)), (1, .int p1), (2, .int p2)]) hx hb d_MO_call_6 rfl hl (by decide) rfl (fun ls hl => ?_)
  refine lv_aload_n hx hb d_MO_call_7 rfl (lv_at hl 1 rfl) ?_
  refine cw_get (C := R_MO) (T := F_MO) (N := 39) (v := .ref (am 18)) hx hb hts (in_MO _) hown hK hP 0 (by decide) rfl rfl 25 (by decide) (ht _ wC_707) rfl d_MO_call_8 ?_
  refine lv_iload_n hx hb d_MO_call_11 rfl (lv_at hl 2 rfl) ?_
  refine cw_iald hx hb hK hP 18 (by decide) rfl 0 rfl hq.1 d_MO_call_12 ?_
  have hq := hq.2
  refine lv_istore (lv' := [(4, .int (gA σ 13 p1.toNatClampNeg)), (3, .int (gA σ 1 p2.toNatClampNeg)), (0, .ref (am 0)), (1, .int p1), (2, .int p2)]) hx hb d_MO_call_13 hl (by decide) rfl (fun ls hl => ?_)
  refine lv_iload hx hb d_MO_call_15 (lv_at hl 0 rfl) ?_
  refine lv_if_ne (tgt := 72) hx hb d_MO_call_17 (by decide) (fun c1 => ?_) (fun c1 => ?_)
  · have hq := hq.2 c1
    refine lv_iload hx hb d_MO_call_72 (lv_at hl 0 rfl) ?_
    refine lv_bipush (v := 9) hx hb d_MO_call_74 (by decide) ?_
    refine lv_icmp_ne (tgt := 88) hx hb d_MO_call_76 (by decide) (fun c2 => ?_) (fun c2 => ?_)
    · have hq := hq.2 c2
      refine lv_iload hx hb d_MO_call_88 (lv_at hl 0 rfl) ?_
      refine lv_iconst (v := 1) hx hb d_MO_call_90 (by decide) ?_
      refine lv_icmp_ne (tgt := 104) hx hb d_MO_call_91 (by decide) (fun c3 => ?_) (fun c3 => ?_)
      · have hq := hq.2 c3
        refine lv_iload hx hb d_MO_call_104 (lv_at hl 0 rfl) ?_
        refine lv_iconst (v := 2) hx hb d_MO_call_106 (by decide) ?_
        refine lv_icmp_ne (tgt := 120) hx hb d_MO_call_107 (by decide) (fun c4 => ?_) (fun c4 => ?_)
        · have hq := hq.2 c4
          refine lv_iload hx hb d_MO_call_120 (lv_at hl 0 rfl) ?_
          refine lv_istore (lv' := [(5, .int (gA σ 13 p1.toNatClampNeg)), (4, .int (gA σ 13 p1.toNatClampNeg)), (3, .int (gA σ 1 p2.toNatClampNeg)), (0, .ref (am 0)), (1, .int p1), (2, .int p2)]) hx hb d_MO_call_122 hl (by decide) rfl (fun ls hl => ?_)
          obtain ⟨fu, hq⟩ := hq
          exact loop_124 fu (gA σ 13 p1.toNatClampNeg) (gA σ 13 p1.toNatClampNeg) (gA σ 1 p2.toNatClampNeg) σ _ _ ls hq hP hS (lv_sub hl [0, 1, 2, 3, 4, 5] rfl)
        · have hq := hq.1 c4
          refine lv_aload_n hx hb d_MO_call_110 rfl (lv_at hl 2 rfl) ?_
          refine cw_get (C := R_MO) (T := F_MO) (N := 39) (v := .ref (am 24)) hx hb hts (in_MO _) hown hK hP 0 (by decide) rfl rfl 31 (by decide) (ht _ wC_713) rfl d_MO_call_111 ?_
          refine lv_iload_n hx hb d_MO_call_114 rfl (lv_at hl 3 rfl) ?_
          refine lv_aload_n hx hb d_MO_call_115 rfl (lv_at hl 2 rfl) ?_
          refine cw_get (C := R_MO) (T := F_MO) (N := 39) (v := .double (gX σ 0)) hx hb hts (in_MO _) hown hK hP 0 (by decide) rfl rfl 38 (by decide) (ht _ wC_720) rfl d_MO_call_116 ?_
          refine cw_dast hx hb hK hP hi hS 24 (by decide) rfl 1 rfl hq.1 mpd_5 d_MO_call_119 (fun H locs hP hS => ?_)
          have hq := hq.2
          obtain ⟨s48, e_s48⟩ : ∃ z, z = sD σ 5 (vf_upd (gD σ 5) p1.toNatClampNeg (gX σ 0)) := ⟨_, rfl⟩
          rw [← e_s48] at hP
          have hq := hq s48 e_s48
          refine lv_iload hx hb d_MO_call_120 (lv_at hl 0 rfl) ?_
          refine lv_istore (lv' := [(5, .int (gA σ 13 p1.toNatClampNeg)), (4, .int (gA σ 13 p1.toNatClampNeg)), (3, .int (gA σ 1 p2.toNatClampNeg)), (0, .ref (am 0)), (1, .int p1), (2, .int p2)]) hx hb d_MO_call_122 hl (by decide) rfl (fun ls hl => ?_)
          obtain ⟨fu, hq⟩ := hq
          exact loop_124 fu (gA σ 13 p1.toNatClampNeg) (gA σ 13 p1.toNatClampNeg) (gA σ 1 p2.toNatClampNeg) s48 _ _ ls hq hP hS (lv_sub hl [0, 1, 2, 3, 4, 5] rfl)
      · have hq := hq.1 c3
        refine lv_aload_n hx hb d_MO_call_94 rfl (lv_at hl 2 rfl) ?_
        refine cw_get (C := R_MO) (T := F_MO) (N := 39) (v := .ref (am 23)) hx hb hts (in_MO _) hown hK hP 0 (by decide) rfl rfl 30 (by decide) (ht _ wC_712) rfl d_MO_call_95 ?_
        refine lv_iload_n hx hb d_MO_call_98 rfl (lv_at hl 3 rfl) ?_
        refine lv_aload_n hx hb d_MO_call_99 rfl (lv_at hl 2 rfl) ?_
        refine cw_get (C := R_MO) (T := F_MO) (N := 39) (v := .double (gX σ 0)) hx hb hts (in_MO _) hown hK hP 0 (by decide) rfl rfl 38 (by decide) (ht _ wC_720) rfl d_MO_call_100 ?_
        refine cw_dast hx hb hK hP hi hS 23 (by decide) rfl 1 rfl hq.1 mpd_4 d_MO_call_103 (fun H locs hP hS => ?_)
        have hq := hq.2
        obtain ⟨s49, e_s49⟩ : ∃ z, z = sD σ 4 (vf_upd (gD σ 4) p1.toNatClampNeg (gX σ 0)) := ⟨_, rfl⟩
        rw [← e_s49] at hP
        have hq := hq s49 e_s49
        refine lv_iload hx hb d_MO_call_104 (lv_at hl 0 rfl) ?_
        refine lv_iconst (v := 2) hx hb d_MO_call_106 (by decide) ?_
        refine lv_icmp_ne (tgt := 120) hx hb d_MO_call_107 (by decide) (fun c50 => ?_) (fun c50 => ?_)
        · have hq := hq.2 c50
          refine lv_iload hx hb d_MO_call_120 (lv_at hl 0 rfl) ?_
          refine lv_istore (lv' := [(5, .int (gA σ 13 p1.toNatClampNeg)), (4, .int (gA σ 13 p1.toNatClampNeg)), (3, .int (gA σ 1 p2.toNatClampNeg)), (0, .ref (am 0)), (1, .int p1), (2, .int p2)]) hx hb d_MO_call_122 hl (by decide) rfl (fun ls hl => ?_)
          obtain ⟨fu, hq⟩ := hq
          exact loop_124 fu (gA σ 13 p1.toNatClampNeg) (gA σ 13 p1.toNatClampNeg) (gA σ 1 p2.toNatClampNeg) s49 _ _ ls hq hP hS (lv_sub hl [0, 1, 2, 3, 4, 5] rfl)
        · have hq := hq.1 c50
          refine lv_aload_n hx hb d_MO_call_110 rfl (lv_at hl 2 rfl) ?_
          refine cw_get (C := R_MO) (T := F_MO) (N := 39) (v := .ref (am 24)) hx hb hts (in_MO _) hown hK hP 0 (by decide) rfl rfl 31 (by decide) (ht _ wC_713) rfl d_MO_call_111 ?_
          refine lv_iload_n hx hb d_MO_call_114 rfl (lv_at hl 3 rfl) ?_
          refine lv_aload_n hx hb d_MO_call_115 rfl (lv_at hl 2 rfl) ?_
          refine cw_get (C := R_MO) (T := F_MO) (N := 39) (v := .double (gX s49 0)) hx hb hts (in_MO _) hown hK hP 0 (by decide) rfl rfl 38 (by decide) (ht _ wC_720) rfl d_MO_call_116 ?_
          refine cw_dast hx hb hK hP hi hS 24 (by decide) rfl 1 rfl hq.1 mpd_5 d_MO_call_119 (fun H locs hP hS => ?_)
          have hq := hq.2
          obtain ⟨s51, e_s51⟩ : ∃ z, z = sD s49 5 (vf_upd (gD s49 5) p1.toNatClampNeg (gX s49 0)) := ⟨_, rfl⟩
          rw [← e_s51] at hP
          have hq := hq s51 e_s51
          refine lv_iload hx hb d_MO_call_120 (lv_at hl 0 rfl) ?_
          refine lv_istore (lv' := [(5, .int (gA σ 13 p1.toNatClampNeg)), (4, .int (gA σ 13 p1.toNatClampNeg)), (3, .int (gA σ 1 p2.toNatClampNeg)), (0, .ref (am 0)), (1, .int p1), (2, .int p2)]) hx hb d_MO_call_122 hl (by decide) rfl (fun ls hl => ?_)
          obtain ⟨fu, hq⟩ := hq
          exact loop_124 fu (gA σ 13 p1.toNatClampNeg) (gA σ 13 p1.toNatClampNeg) (gA σ 1 p2.toNatClampNeg) s51 _ _ ls hq hP hS (lv_sub hl [0, 1, 2, 3, 4, 5] rfl)
    · have hq := hq.1 c2
      refine lv_aload_n hx hb d_MO_call_79 rfl (lv_at hl 2 rfl) ?_
      refine lv_aload_n hx hb d_MO_call_80 rfl (lv_at hl 2 rfl) ?_
      refine cw_get (C := R_MO) (T := F_MO) (N := 39) (v := .double (gX σ 0)) hx hb hts (in_MO _) hown hK hP 0 (by decide) rfl rfl 38 (by decide) (ht _ wC_720) rfl d_MO_call_81 ?_
      refine va_callv (va_runV (As := [.double (gX σ 0)]) (rest := []) ⟨hx, hb, hml, hown, hts⟩ (c_MO_end (D := D) (cs := cs) hi hq) (cwV 1 hts (good_V wC_864 wC_866 wC_29 wC_50 wC_867) rfl rfl rfl (by decide +kernel) ⟨(show 0 + 1 ≤ 2 by omega), (show 8 + (3 + 11) + 0 ≤ 43 by omega)⟩) ⟨mP_blind, va_recv hK hP (ci := 5) (q0 := 0) rfl (wd_at (by decide) rfl), fun U hU hW => ⟨rfl, by rw [hU]; exact hP, va_K.moved hW.alike hK, hN.warm hW⟩⟩ rfl rfl hl.1 rfl (lv_room (Nat.le_of_ble_eq_true rfl)) d_MO_call_84 ⟨Nat.le_of_ble_eq_true rfl, Nat.le_of_ble_eq_true rfl⟩) hS (fun q _ h => h) (fun q h => h) (fun s53 t H locs ht0 hvm hq hB hz1 hk1 hS => ?_)
      obtain ⟨hP, -, -⟩ := hB
      rw [ht0] at hP
      exact W.vret hx hb hr (fun t ht hW => ⟨⟨s53, rfl, hq, by rw [ht]; exact hP, va_K.moved hW.alike hK, hN.warm hW⟩, hS.F ht⟩) hS.2.2 d_MO_call_87
  · have hq := hq.1 c1
    refine lv_aload_n hx hb d_MO_call_20 rfl (lv_at hl 2 rfl) ?_
    refine cw_get (C := R_MO) (T := F_MO) (N := 39) (v := .ref (am 5)) hx hb hts (in_MO _) hown hK hP 0 (by decide) rfl rfl 4 (by decide) (ht _ wC_686) rfl d_MO_call_21 ?_
    refine lv_iload_n hx hb d_MO_call_24 rfl (lv_at hl 1 rfl) ?_
    refine cw_iald hx hb hK hP 5 (by decide) rfl 0 rfl hq.1 d_MO_call_25 ?_
    have hq := hq.2
    refine lv_if_lt (tgt := 66) hx hb d_MO_call_26 (by decide) (fun c54 => ?_) (fun c54 => ?_)
    · have hq := hq.1 c54
      refine lv_aload_n hx hb d_MO_call_66 rfl (lv_at hl 2 rfl) ?_
      refine lv_iconst (v := 4) hx hb d_MO_call_67 (by decide) ?_
      refine va_callv (va_runV (As := [.int 4]) (rest := []) ⟨hx, hb, hml, hown, hts⟩ (c_MO_wrong (D := D) (cs := cs) hi hq) (cwV 1 hts (good_V wC_855 wC_857 wC_27 wC_50 wC_858) rfl rfl rfl (by decide +kernel) ⟨(show 0 + 1 ≤ 2 by omega), (show 8 + (2 + 11) + 0 ≤ 43 by omega)⟩) ⟨mP_blind, va_recv hK hP (ci := 5) (q0 := 0) rfl (wd_at (by decide) rfl), fun U hU hW => ⟨rfl, by rw [hU]; exact hP, va_K.moved hW.alike hK, hN.warm hW⟩⟩ rfl rfl hl.1 rfl (lv_room (Nat.le_of_ble_eq_true rfl)) d_MO_call_68 ⟨Nat.le_of_ble_eq_true rfl, Nat.le_of_ble_eq_true rfl⟩) hS (fun q _ h => h) (fun q h => h) (fun s56 t H locs ht0 hvm hq hB hz1 hk1 hS => ?_)
      obtain ⟨hP, -, -⟩ := hB
      rw [ht0] at hP
      exact W.vret hx hb hr (fun t ht hW => ⟨⟨s56, rfl, hq, by rw [ht]; exact hP, va_K.moved hW.alike hK, hN.warm hW⟩, hS.F ht⟩) hS.2.2 d_MO_call_71
    · have hq := hq.2 c54
      refine lv_aload_n hx hb d_MO_call_29 rfl (lv_at hl 2 rfl) ?_
      refine cw_get (C := R_MO) (T := F_MO) (N := 39) (v := .ref (am 6)) hx hb hts (in_MO _) hown hK hP 0 (by decide) rfl rfl 5 (by decide) (ht _ wC_687) rfl d_MO_call_30 ?_
      refine lv_iload_n hx hb d_MO_call_33 rfl (lv_at hl 1 rfl) ?_
      refine cw_iald hx hb hK hP 6 (by decide) rfl 0 rfl hq.1 d_MO_call_34 ?_
      have hq := hq.2
      refine lv_if_le (tgt := 47) hx hb d_MO_call_35 (by decide) (fun c57 => ?_) (fun c57 => ?_)
      · have hq := hq.1 c57
        refine lv_aload_n hx hb d_MO_call_47 rfl (lv_at hl 2 rfl) ?_
        refine cw_get (C := R_MO) (T := F_MO) (N := 39) (v := .ref (am 6)) hx hb hts (in_MO _) hown hK hP 0 (by decide) rfl rfl 5 (by decide) (ht _ wC_687) rfl d_MO_call_48 ?_
        refine lv_iload_n hx hb d_MO_call_51 rfl (lv_at hl 1 rfl) ?_
        refine cw_iald hx hb hK hP 6 (by decide) rfl 0 rfl hq.1 d_MO_call_52 ?_
        have hq := hq.2
        refine lv_iconst (v := 1) hx hb d_MO_call_53 (by decide) ?_
        refine lv_icmp_le (tgt := 72) hx hb d_MO_call_54 (by decide) (fun c58 => ?_) (fun c58 => ?_)
        · have hq := hq.1 c58
          refine lv_iload hx hb d_MO_call_72 (lv_at hl 0 rfl) ?_
          refine lv_bipush (v := 9) hx hb d_MO_call_74 (by decide) ?_
          refine lv_icmp_ne (tgt := 88) hx hb d_MO_call_76 (by decide) (fun c59 => ?_) (fun c59 => ?_)
          · have hq := hq.2 c59
            refine lv_iload hx hb d_MO_call_88 (lv_at hl 0 rfl) ?_
            refine lv_iconst (v := 1) hx hb d_MO_call_90 (by decide) ?_
            refine lv_icmp_ne (tgt := 104) hx hb d_MO_call_91 (by decide) (fun c60 => ?_) (fun c60 => ?_)
            · have hq := hq.2 c60
              refine lv_iload hx hb d_MO_call_104 (lv_at hl 0 rfl) ?_
              refine lv_iconst (v := 2) hx hb d_MO_call_106 (by decide) ?_
              refine lv_icmp_ne (tgt := 120) hx hb d_MO_call_107 (by decide) (fun c61 => ?_) (fun c61 => ?_)
              · have hq := hq.2 c61
                refine lv_iload hx hb d_MO_call_120 (lv_at hl 0 rfl) ?_
                refine lv_istore (lv' := [(5, .int (gA σ 13 p1.toNatClampNeg)), (4, .int (gA σ 13 p1.toNatClampNeg)), (3, .int (gA σ 1 p2.toNatClampNeg)), (0, .ref (am 0)), (1, .int p1), (2, .int p2)]) hx hb d_MO_call_122 hl (by decide) rfl (fun ls hl => ?_)
                obtain ⟨fu, hq⟩ := hq
                exact loop_124 fu (gA σ 13 p1.toNatClampNeg) (gA σ 13 p1.toNatClampNeg) (gA σ 1 p2.toNatClampNeg) σ _ _ ls hq hP hS (lv_sub hl [0, 1, 2, 3, 4, 5] rfl)
              · have hq := hq.1 c61
                refine lv_aload_n hx hb d_MO_call_110 rfl (lv_at hl 2 rfl) ?_
                refine cw_get (C := R_MO) (T := F_MO) (N := 39) (v := .ref (am 24)) hx hb hts (in_MO _) hown hK hP 0 (by decide) rfl rfl 31 (by decide) (ht _ wC_713) rfl d_MO_call_111 ?_
                refine lv_iload_n hx hb d_MO_call_114 rfl (lv_at hl 3 rfl) ?_
                refine lv_aload_n hx hb d_MO_call_115 rfl (lv_at hl 2 rfl) ?_
                refine cw_get (C := R_MO) (T := F_MO) (N := 39) (v := .double (gX σ 0)) hx hb hts (in_MO _) hown hK hP 0 (by decide) rfl rfl 38 (by decide) (ht _ wC_720) rfl d_MO_call_116 ?_
                refine cw_dast hx hb hK hP hi hS 24 (by decide) rfl 1 rfl hq.1 mpd_5 d_MO_call_119 (fun H locs hP hS => ?_)
                have hq := hq.2
                obtain ⟨s62, e_s62⟩ : ∃ z, z = sD σ 5 (vf_upd (gD σ 5) p1.toNatClampNeg (gX σ 0)) := ⟨_, rfl⟩
                rw [← e_s62] at hP
                have hq := hq s62 e_s62
                refine lv_iload hx hb d_MO_call_120 (lv_at hl 0 rfl) ?_
                refine lv_istore (lv' := [(5, .int (gA σ 13 p1.toNatClampNeg)), (4, .int (gA σ 13 p1.toNatClampNeg)), (3, .int (gA σ 1 p2.toNatClampNeg)), (0, .ref (am 0)), (1, .int p1), (2, .int p2)]) hx hb d_MO_call_122 hl (by decide) rfl (fun ls hl => ?_)
                obtain ⟨fu, hq⟩ := hq
                exact loop_124 fu (gA σ 13 p1.toNatClampNeg) (gA σ 13 p1.toNatClampNeg) (gA σ 1 p2.toNatClampNeg) s62 _ _ ls hq hP hS (lv_sub hl [0, 1, 2, 3, 4, 5] rfl)
            · have hq := hq.1 c60
              refine lv_aload_n hx hb d_MO_call_94 rfl (lv_at hl 2 rfl) ?_
              refine cw_get (C := R_MO) (T := F_MO) (N := 39) (v := .ref (am 23)) hx hb hts (in_MO _) hown hK hP 0 (by decide) rfl rfl 30 (by decide) (ht _ wC_712) rfl d_MO_call_95 ?_
              refine lv_iload_n hx hb d_MO_call_98 rfl (lv_at hl 3 rfl) ?_
              refine lv_aload_n hx hb d_MO_call_99 rfl (lv_at hl 2 rfl) ?_
              refine cw_get (C := R_MO) (T := F_MO) (N := 39) (v := .double (gX σ 0)) hx hb hts (in_MO _) hown hK hP 0 (by decide) rfl rfl 38 (by decide) (ht _ wC_720) rfl d_MO_call_100 ?_
              refine cw_dast hx hb hK hP hi hS 23 (by decide) rfl 1 rfl hq.1 mpd_4 d_MO_call_103 (fun H locs hP hS => ?_)
              have hq := hq.2
              obtain ⟨s63, e_s63⟩ : ∃ z, z = sD σ 4 (vf_upd (gD σ 4) p1.toNatClampNeg (gX σ 0)) := ⟨_, rfl⟩
              rw [← e_s63] at hP
              have hq := hq s63 e_s63
              refine lv_iload hx hb d_MO_call_104 (lv_at hl 0 rfl) ?_
              refine lv_iconst (v := 2) hx hb d_MO_call_106 (by decide) ?_
              refine lv_icmp_ne (tgt := 120) hx hb d_MO_call_107 (by decide) (fun c64 => ?_) (fun c64 => ?_)
              · have hq := hq.2 c64
                refine lv_iload hx hb d_MO_call_120 (lv_at hl 0 rfl) ?_
                refine lv_istore (lv' := [(5, .int (gA σ 13 p1.toNatClampNeg)), (4, .int (gA σ 13 p1.toNatClampNeg)), (3, .int (gA σ 1 p2.toNatClampNeg)), (0, .ref (am 0)), (1, .int p1), (2, .int p2)]) hx hb d_MO_call_122 hl (by decide) rfl (fun ls hl => ?_)
                obtain ⟨fu, hq⟩ := hq
                exact loop_124 fu (gA σ 13 p1.toNatClampNeg) (gA σ 13 p1.toNatClampNeg) (gA σ 1 p2.toNatClampNeg) s63 _ _ ls hq hP hS (lv_sub hl [0, 1, 2, 3, 4, 5] rfl)
              · have hq := hq.1 c64
                refine lv_aload_n hx hb d_MO_call_110 rfl (lv_at hl 2 rfl) ?_
                refine cw_get (C := R_MO) (T := F_MO) (N := 39) (v := .ref (am 24)) hx hb hts (in_MO _) hown hK hP 0 (by decide) rfl rfl 31 (by decide) (ht _ wC_713) rfl d_MO_call_111 ?_
                refine lv_iload_n hx hb d_MO_call_114 rfl (lv_at hl 3 rfl) ?_
                refine lv_aload_n hx hb d_MO_call_115 rfl (lv_at hl 2 rfl) ?_
                refine cw_get (C := R_MO) (T := F_MO) (N := 39) (v := .double (gX s63 0)) hx hb hts (in_MO _) hown hK hP 0 (by decide) rfl rfl 38 (by decide) (ht _ wC_720) rfl d_MO_call_116 ?_
                refine cw_dast hx hb hK hP hi hS 24 (by decide) rfl 1 rfl hq.1 mpd_5 d_MO_call_119 (fun H locs hP hS => ?_)
                have hq := hq.2
                obtain ⟨s65, e_s65⟩ : ∃ z, z = sD s63 5 (vf_upd (gD s63 5) p1.toNatClampNeg (gX s63 0)) := ⟨_, rfl⟩
                rw [← e_s65] at hP
                have hq := hq s65 e_s65
                refine lv_iload hx hb d_MO_call_120 (lv_at hl 0 rfl) ?_
                refine lv_istore (lv' := [(5, .int (gA σ 13 p1.toNatClampNeg)), (4, .int (gA σ 13 p1.toNatClampNeg)), (3, .int (gA σ 1 p2.toNatClampNeg)), (0, .ref (am 0)), (1, .int p1), (2, .int p2)]) hx hb d_MO_call_122 hl (by decide) rfl (fun ls hl => ?_)
                obtain ⟨fu, hq⟩ := hq
                exact loop_124 fu (gA σ 13 p1.toNatClampNeg) (gA σ 13 p1.toNatClampNeg) (gA σ 1 p2.toNatClampNeg) s65 _ _ ls hq hP hS (lv_sub hl [0, 1, 2, 3, 4, 5] rfl)
          · have hq := hq.1 c59
            refine lv_aload_n hx hb d_MO_call_79 rfl (lv_at hl 2 rfl) ?_
            refine lv_aload_n hx hb d_MO_call_80 rfl (lv_at hl 2 rfl) ?_
            refine cw_get (C := R_MO) (T := F_MO) (N := 39) (v := .double (gX σ 0)) hx hb hts (in_MO _) hown hK hP 0 (by decide) rfl rfl 38 (by decide) (ht _ wC_720) rfl d_MO_call_81 ?_
            refine va_callv (va_runV (As := [.double (gX σ 0)]) (rest := []) ⟨hx, hb, hml, hown, hts⟩ (c_MO_end (D := D) (cs := cs) hi hq) (cwV 1 hts (good_V wC_864 wC_866 wC_29 wC_50 wC_867) rfl rfl rfl (by decide +kernel) ⟨(show 0 + 1 ≤ 2 by omega), (show 8 + (3 + 11) + 0 ≤ 43 by omega)⟩) ⟨mP_blind, va_recv hK hP (ci := 5) (q0 := 0) rfl (wd_at (by decide) rfl), fun U hU hW => ⟨rfl, by rw [hU]; exact hP, va_K.moved hW.alike hK, hN.warm hW⟩⟩ rfl rfl hl.1 rfl (lv_room (Nat.le_of_ble_eq_true rfl)) d_MO_call_84 ⟨Nat.le_of_ble_eq_true rfl, Nat.le_of_ble_eq_true rfl⟩) hS (fun q _ h => h) (fun q h => h) (fun s67 t H locs ht0 hvm hq hB hz1 hk1 hS => ?_)
            obtain ⟨hP, -, -⟩ := hB
            rw [ht0] at hP
            exact W.vret hx hb hr (fun t ht hW => ⟨⟨s67, rfl, hq, by rw [ht]; exact hP, va_K.moved hW.alike hK, hN.warm hW⟩, hS.F ht⟩) hS.2.2 d_MO_call_87
        · have hq := hq.2 c58
          refine lv_aload_n hx hb d_MO_call_57 rfl (lv_at hl 2 rfl) ?_
          refine cw_get (C := R_MO) (T := F_MO) (N := 39) (v := .ref (am 4)) hx hb hts (in_MO _) hown hK hP 0 (by decide) rfl rfl 3 (by decide) (ht _ wC_685) rfl d_MO_call_58 ?_
          refine lv_iload_n hx hb d_MO_call_61 rfl (lv_at hl 4 rfl) ?_
          refine cw_iald hx hb hK hP 4 (by decide) rfl 0 rfl hq.1 d_MO_call_62 ?_
          have hq := hq.2
          refine lv_if_ge (tgt := 72) hx hb d_MO_call_63 (by decide) (fun c68 => ?_) (fun c68 => ?_)
          · have hq := hq.1 c68
            refine lv_iload hx hb d_MO_call_72 (lv_at hl 0 rfl) ?_
            refine lv_bipush (v := 9) hx hb d_MO_call_74 (by decide) ?_
            refine lv_icmp_ne (tgt := 88) hx hb d_MO_call_76 (by decide) (fun c69 => ?_) (fun c69 => ?_)
            · have hq := hq.2 c69
              refine lv_iload hx hb d_MO_call_88 (lv_at hl 0 rfl) ?_
              refine lv_iconst (v := 1) hx hb d_MO_call_90 (by decide) ?_
              refine lv_icmp_ne (tgt := 104) hx hb d_MO_call_91 (by decide) (fun c70 => ?_) (fun c70 => ?_)
              · have hq := hq.2 c70
                refine lv_iload hx hb d_MO_call_104 (lv_at hl 0 rfl) ?_
                refine lv_iconst (v := 2) hx hb d_MO_call_106 (by decide) ?_
                refine lv_icmp_ne (tgt := 120) hx hb d_MO_call_107 (by decide) (fun c71 => ?_) (fun c71 => ?_)
                · have hq := hq.2 c71
                  refine lv_iload hx hb d_MO_call_120 (lv_at hl 0 rfl) ?_
                  refine lv_istore (lv' := [(5, .int (gA σ 13 p1.toNatClampNeg)), (4, .int (gA σ 13 p1.toNatClampNeg)), (3, .int (gA σ 1 p2.toNatClampNeg)), (0, .ref (am 0)), (1, .int p1), (2, .int p2)]) hx hb d_MO_call_122 hl (by decide) rfl (fun ls hl => ?_)
                  obtain ⟨fu, hq⟩ := hq
                  exact loop_124 fu (gA σ 13 p1.toNatClampNeg) (gA σ 13 p1.toNatClampNeg) (gA σ 1 p2.toNatClampNeg) σ _ _ ls hq hP hS (lv_sub hl [0, 1, 2, 3, 4, 5] rfl)
                · have hq := hq.1 c71
                  refine lv_aload_n hx hb d_MO_call_110 rfl (lv_at hl 2 rfl) ?_
                  refine cw_get (C := R_MO) (T := F_MO) (N := 39) (v := .ref (am 24)) hx hb hts (in_MO _) hown hK hP 0 (by decide) rfl rfl 31 (by decide) (ht _ wC_713) rfl d_MO_call_111 ?_
                  refine lv_iload_n hx hb d_MO_call_114 rfl (lv_at hl 3 rfl) ?_
                  refine lv_aload_n hx hb d_MO_call_115 rfl (lv_at hl 2 rfl) ?_
                  refine cw_get (C := R_MO) (T := F_MO) (N := 39) (v := .double (gX σ 0)) hx hb hts (in_MO _) hown hK hP 0 (by decide) rfl rfl 38 (by decide) (ht _ wC_720) rfl d_MO_call_116 ?_
                  refine cw_dast hx hb hK hP hi hS 24 (by decide) rfl 1 rfl hq.1 mpd_5 d_MO_call_119 (fun H locs hP hS => ?_)
                  have hq := hq.2
                  obtain ⟨s72, e_s72⟩ : ∃ z, z = sD σ 5 (vf_upd (gD σ 5) p1.toNatClampNeg (gX σ 0)) := ⟨_, rfl⟩
                  rw [← e_s72] at hP
                  have hq := hq s72 e_s72
                  refine lv_iload hx hb d_MO_call_120 (lv_at hl 0 rfl) ?_
                  refine lv_istore (lv' := [(5, .int (gA σ 13 p1.toNatClampNeg)), (4, .int (gA σ 13 p1.toNatClampNeg)), (3, .int (gA σ 1 p2.toNatClampNeg)), (0, .ref (am 0)), (1, .int p1), (2, .int p2)]) hx hb d_MO_call_122 hl (by decide) rfl (fun ls hl => ?_)
                  obtain ⟨fu, hq⟩ := hq
                  exact loop_124 fu (gA σ 13 p1.toNatClampNeg) (gA σ 13 p1.toNatClampNeg) (gA σ 1 p2.toNatClampNeg) s72 _ _ ls hq hP hS (lv_sub hl [0, 1, 2, 3, 4, 5] rfl)
              · have hq := hq.1 c70
                refine lv_aload_n hx hb d_MO_call_94 rfl (lv_at hl 2 rfl) ?_
                refine cw_get (C := R_MO) (T := F_MO) (N := 39) (v := .ref (am 23)) hx hb hts (in_MO _) hown hK hP 0 (by decide) rfl rfl 30 (by decide) (ht _ wC_712) rfl d_MO_call_95 ?_
                refine lv_iload_n hx hb d_MO_call_98 rfl (lv_at hl 3 rfl) ?_
                refine lv_aload_n hx hb d_MO_call_99 rfl (lv_at hl 2 rfl) ?_
                refine cw_get (C := R_MO) (T := F_MO) (N := 39) (v := .double (gX σ 0)) hx hb hts (in_MO _) hown hK hP 0 (by decide) rfl rfl 38 (by decide) (ht _ wC_720) rfl d_MO_call_100 ?_
                refine cw_dast hx hb hK hP hi hS 23 (by decide) rfl 1 rfl hq.1 mpd_4 d_MO_call_103 (fun H locs hP hS => ?_)
                have hq := hq.2
                obtain ⟨s73, e_s73⟩ : ∃ z, z = sD σ 4 (vf_upd (gD σ 4) p1.toNatClampNeg (gX σ 0)) := ⟨_, rfl⟩
                rw [← e_s73] at hP
                have hq := hq s73 e_s73
                refine lv_iload hx hb d_MO_call_104 (lv_at hl 0 rfl) ?_
                refine lv_iconst (v := 2) hx hb d_MO_call_106 (by decide) ?_
                refine lv_icmp_ne (tgt := 120) hx hb d_MO_call_107 (by decide) (fun c74 => ?_) (fun c74 => ?_)
                · have hq := hq.2 c74
                  refine lv_iload hx hb d_MO_call_120 (lv_at hl 0 rfl) ?_
                  refine lv_istore (lv' := [(5, .int (gA σ 13 p1.toNatClampNeg)), (4, .int (gA σ 13 p1.toNatClampNeg)), (3, .int (gA σ 1 p2.toNatClampNeg)), (0, .ref (am 0)), (1, .int p1), (2, .int p2)]) hx hb d_MO_call_122 hl (by decide) rfl (fun ls hl => ?_)
                  obtain ⟨fu, hq⟩ := hq
                  exact loop_124 fu (gA σ 13 p1.toNatClampNeg) (gA σ 13 p1.toNatClampNeg) (gA σ 1 p2.toNatClampNeg) s73 _ _ ls hq hP hS (lv_sub hl [0, 1, 2, 3, 4, 5] rfl)
                · have hq := hq.1 c74
                  refine lv_aload_n hx hb d_MO_call_110 rfl (lv_at hl 2 rfl) ?_
                  refine cw_get (C := R_MO) (T := F_MO) (N := 39) (v := .ref (am 24)) hx hb hts (in_MO _) hown hK hP 0 (by decide) rfl rfl 31 (by decide) (ht _ wC_713) rfl d_MO_call_111 ?_
                  refine lv_iload_n hx hb d_MO_call_114 rfl (lv_at hl 3 rfl) ?_
                  refine lv_aload_n hx hb d_MO_call_115 rfl (lv_at hl 2 rfl) ?_
                  refine cw_get (C := R_MO) (T := F_MO) (N := 39) (v := .double (gX s73 0)) hx hb hts (in_MO _) hown hK hP 0 (by decide) rfl rfl 38 (by decide) (ht _ wC_720) rfl d_MO_call_116 ?_
                  refine cw_dast hx hb hK hP hi hS 24 (by decide) rfl 1 rfl hq.1 mpd_5 d_MO_call_119 (fun H locs hP hS => ?_)
                  have hq := hq.2
                  obtain ⟨s75, e_s75⟩ : ∃ z, z = sD s73 5 (vf_upd (gD s73 5) p1.toNatClampNeg (gX s73 0)) := ⟨_, rfl⟩
                  rw [← e_s75] at hP
                  have hq := hq s75 e_s75
                  refine lv_iload hx hb d_MO_call_120 (lv_at hl 0 rfl) ?_
                  refine lv_istore (lv' := [(5, .int (gA σ 13 p1.toNatClampNeg)), (4, .int (gA σ 13 p1.toNatClampNeg)), (3, .int (gA σ 1 p2.toNatClampNeg)), (0, .ref (am 0)), (1, .int p1), (2, .int p2)]) hx hb d_MO_call_122 hl (by decide) rfl (fun ls hl => ?_)
                  obtain ⟨fu, hq⟩ := hq
                  exact loop_124 fu (gA σ 13 p1.toNatClampNeg) (gA σ 13 p1.toNatClampNeg) (gA σ 1 p2.toNatClampNeg) s75 _ _ ls hq hP hS (lv_sub hl [0, 1, 2, 3, 4, 5] rfl)
            · have hq := hq.1 c69
              refine lv_aload_n hx hb d_MO_call_79 rfl (lv_at hl 2 rfl) ?_
              refine lv_aload_n hx hb d_MO_call_80 rfl (lv_at hl 2 rfl) ?_
              refine cw_get (C := R_MO) (T := F_MO) (N := 39) (v := .double (gX σ 0)) hx hb hts (in_MO _) hown hK hP 0 (by decide) rfl rfl 38 (by decide) (ht _ wC_720) rfl d_MO_call_81 ?_
              refine va_callv (va_runV (As := [.double (gX σ 0)]) (rest := []) ⟨hx, hb, hml, hown, hts⟩ (c_MO_end (D := D) (cs := cs) hi hq) (cwV 1 hts (good_V wC_864 wC_866 wC_29 wC_50 wC_867) rfl rfl rfl (by decide +kernel) ⟨(show 0 + 1 ≤ 2 by omega), (show 8 + (3 + 11) + 0 ≤ 43 by omega)⟩) ⟨mP_blind, va_recv hK hP (ci := 5) (q0 := 0) rfl (wd_at (by decide) rfl), fun U hU hW => ⟨rfl, by rw [hU]; exact hP, va_K.moved hW.alike hK, hN.warm hW⟩⟩ rfl rfl hl.1 rfl (lv_room (Nat.le_of_ble_eq_true rfl)) d_MO_call_84 ⟨Nat.le_of_ble_eq_true rfl, Nat.le_of_ble_eq_true rfl⟩) hS (fun q _ h => h) (fun q h => h) (fun s77 t H locs ht0 hvm hq hB hz1 hk1 hS => ?_)
              obtain ⟨hP, -, -⟩ := hB
              rw [ht0] at hP
              exact W.vret hx hb hr (fun t ht hW => ⟨⟨s77, rfl, hq, by rw [ht]; exact hP, va_K.moved hW.alike hK, hN.warm hW⟩, hS.F ht⟩) hS.2.2 d_MO_call_87
          · have hq := hq.2 c68
            refine lv_aload_n hx hb d_MO_call_66 rfl (lv_at hl 2 rfl) ?_
            refine lv_iconst (v := 4) hx hb d_MO_call_67 (by decide) ?_
            refine va_callv (va_runV (As := [.int 4]) (rest := []) ⟨hx, hb, hml, hown, hts⟩ (c_MO_wrong (D := D) (cs := cs) hi hq) (cwV 1 hts (good_V wC_855 wC_857 wC_27 wC_50 wC_858) rfl rfl rfl (by decide +kernel) ⟨(show 0 + 1 ≤ 2 by omega), (show 8 + (2 + 11) + 0 ≤ 43 by omega)⟩) ⟨mP_blind, va_recv hK hP (ci := 5) (q0 := 0) rfl (wd_at (by decide) rfl), fun U hU hW => ⟨rfl, by rw [hU]; exact hP, va_K.moved hW.alike hK, hN.warm hW⟩⟩ rfl rfl hl.1 rfl (lv_room (Nat.le_of_ble_eq_true rfl)) d_MO_call_68 ⟨Nat.le_of_ble_eq_true rfl, Nat.le_of_ble_eq_true rfl⟩) hS (fun q _ h => h) (fun q h => h) (fun s79 t H locs ht0 hvm hq hB hz1 hk1 hS => ?_)
            obtain ⟨hP, -, -⟩ := hB
            rw [ht0] at hP
            exact W.vret hx hb hr (fun t ht hW => ⟨⟨s79, rfl, hq, by rw [ht]; exact hP, va_K.moved hW.alike hK, hN.warm hW⟩, hS.F ht⟩) hS.2.2 d_MO_call_71
      · have hq := hq.2 c57
        refine lv_aload_n hx hb d_MO_call_38 rfl (lv_at hl 2 rfl) ?_
        refine cw_get (C := R_MO) (T := F_MO) (N := 39) (v := .ref (am 3)) hx hb hts (in_MO _) hown hK hP 0 (by decide) rfl rfl 2 (by decide) (ht _ wC_684) rfl d_MO_call_39 ?_
        refine lv_iload_n hx hb d_MO_call_42 rfl (lv_at hl 4 rfl) ?_
        refine cw_iald hx hb hK hP 3 (by decide) rfl 0 rfl hq.1 d_MO_call_43 ?_
        have hq := hq.2
        refine lv_if_lt (tgt := 66) hx hb d_MO_call_44 (by decide) (fun c80 => ?_) (fun c80 => ?_)
        · have hq := hq.1 c80
          refine lv_aload_n hx hb d_MO_call_66 rfl (lv_at hl 2 rfl) ?_
          refine lv_iconst (v := 4) hx hb d_MO_call_67 (by decide) ?_
          refine va_callv (va_runV (As := [.int 4]) (rest := []) ⟨hx, hb, hml, hown, hts⟩ (c_MO_wrong (D := D) (cs := cs) hi hq) (cwV 1 hts (good_V wC_855 wC_857 wC_27 wC_50 wC_858) rfl rfl rfl (by decide +kernel) ⟨(show 0 + 1 ≤ 2 by omega), (show 8 + (2 + 11) + 0 ≤ 43 by omega)⟩) ⟨mP_blind, va_recv hK hP (ci := 5) (q0 := 0) rfl (wd_at (by decide) rfl), fun U hU hW => ⟨rfl, by rw [hU]; exact hP, va_K.moved hW.alike hK, hN.warm hW⟩⟩ rfl rfl hl.1 rfl (lv_room (Nat.le_of_ble_eq_true rfl)) d_MO_call_68 ⟨Nat.le_of_ble_eq_true rfl, Nat.le_of_ble_eq_true rfl⟩) hS (fun q _ h => h) (fun q h => h) (fun s82 t H locs ht0 hvm hq hB hz1 hk1 hS => ?_)
          obtain ⟨hP, -, -⟩ := hB
          rw [ht0] at hP
          exact W.vret hx hb hr (fun t ht hW => ⟨⟨s82, rfl, hq, by rw [ht]; exact hP, va_K.moved hW.alike hK, hN.warm hW⟩, hS.F ht⟩) hS.2.2 d_MO_call_71
        · have hq := hq.2 c80
          refine lv_aload_n hx hb d_MO_call_47 rfl (lv_at hl 2 rfl) ?_
          refine cw_get (C := R_MO) (T := F_MO) (N := 39) (v := .ref (am 6)) hx hb hts (in_MO _) hown hK hP 0 (by decide) rfl rfl 5 (by decide) (ht _ wC_687) rfl d_MO_call_48 ?_
          refine lv_iload_n hx hb d_MO_call_51 rfl (lv_at hl 1 rfl) ?_
          refine cw_iald hx hb hK hP 6 (by decide) rfl 0 rfl hq.1 d_MO_call_52 ?_
          have hq := hq.2
          refine lv_iconst (v := 1) hx hb d_MO_call_53 (by decide) ?_
          refine lv_icmp_le (tgt := 72) hx hb d_MO_call_54 (by decide) (fun c83 => ?_) (fun c83 => ?_)
          · have hq := hq.1 c83
            refine lv_iload hx hb d_MO_call_72 (lv_at hl 0 rfl) ?_
            refine lv_bipush (v := 9) hx hb d_MO_call_74 (by decide) ?_
            refine lv_icmp_ne (tgt := 88) hx hb d_MO_call_76 (by decide) (fun c84 => ?_) (fun c84 => ?_)
            · have hq := hq.2 c84
              refine lv_iload hx hb d_MO_call_88 (lv_at hl 0 rfl) ?_
              refine lv_iconst (v := 1) hx hb d_MO_call_90 (by decide) ?_
              refine lv_icmp_ne (tgt := 104) hx hb d_MO_call_91 (by decide) (fun c85 => ?_) (fun c85 => ?_)
              · have hq := hq.2 c85
                refine lv_iload hx hb d_MO_call_104 (lv_at hl 0 rfl) ?_
                refine lv_iconst (v := 2) hx hb d_MO_call_106 (by decide) ?_
                refine lv_icmp_ne (tgt := 120) hx hb d_MO_call_107 (by decide) (fun c86 => ?_) (fun c86 => ?_)
                · have hq := hq.2 c86
                  refine lv_iload hx hb d_MO_call_120 (lv_at hl 0 rfl) ?_
                  refine lv_istore (lv' := [(5, .int (gA σ 13 p1.toNatClampNeg)), (4, .int (gA σ 13 p1.toNatClampNeg)), (3, .int (gA σ 1 p2.toNatClampNeg)), (0, .ref (am 0)), (1, .int p1), (2, .int p2)]) hx hb d_MO_call_122 hl (by decide) rfl (fun ls hl => ?_)
                  obtain ⟨fu, hq⟩ := hq
                  exact loop_124 fu (gA σ 13 p1.toNatClampNeg) (gA σ 13 p1.toNatClampNeg) (gA σ 1 p2.toNatClampNeg) σ _ _ ls hq hP hS (lv_sub hl [0, 1, 2, 3, 4, 5] rfl)
                · have hq := hq.1 c86
                  refine lv_aload_n hx hb d_MO_call_110 rfl (lv_at hl 2 rfl) ?_
                  refine cw_get (C := R_MO) (T := F_MO) (N := 39) (v := .ref (am 24)) hx hb hts (in_MO _) hown hK hP 0 (by decide) rfl rfl 31 (by decide) (ht _ wC_713) rfl d_MO_call_111 ?_
                  refine lv_iload_n hx hb d_MO_call_114 rfl (lv_at hl 3 rfl) ?_
                  refine lv_aload_n hx hb d_MO_call_115 rfl (lv_at hl 2 rfl) ?_
                  refine cw_get (C := R_MO) (T := F_MO) (N := 39) (v := .double (gX σ 0)) hx hb hts (in_MO _) hown hK hP 0 (by decide) rfl rfl 38 (by decide) (ht _ wC_720) rfl d_MO_call_116 ?_
                  refine cw_dast hx hb hK hP hi hS 24 (by decide) rfl 1 rfl hq.1 mpd_5 d_MO_call_119 (fun H locs hP hS => ?_)
                  have hq := hq.2
                  obtain ⟨s87, e_s87⟩ : ∃ z, z = sD σ 5 (vf_upd (gD σ 5) p1.toNatClampNeg (gX σ 0)) := ⟨_, rfl⟩
                  rw [← e_s87] at hP
                  have hq := hq s87 e_s87
                  refine lv_iload hx hb d_MO_call_120 (lv_at hl 0 rfl) ?_
                  refine lv_istore (lv' := [(5, .int (gA σ 13 p1.toNatClampNeg)), (4, .int (gA σ 13 p1.toNatClampNeg)), (3, .int (gA σ 1 p2.toNatClampNeg)), (0, .ref (am 0)), (1, .int p1), (2, .int p2)]) hx hb d_MO_call_122 hl (by decide) rfl (fun ls hl => ?_)
                  obtain ⟨fu, hq⟩ := hq
                  exact loop_124 fu (gA σ 13 p1.toNatClampNeg) (gA σ 13 p1.toNatClampNeg) (gA σ 1 p2.toNatClampNeg) s87 _ _ ls hq hP hS (lv_sub hl [0, 1, 2, 3, 4, 5] rfl)
              · have hq := hq.1 c85
                refine lv_aload_n hx hb d_MO_call_94 rfl (lv_at hl 2 rfl) ?_
                refine cw_get (C := R_MO) (T := F_MO) (N := 39) (v := .ref (am 23)) hx hb hts (in_MO _) hown hK hP 0 (by decide) rfl rfl 30 (by decide) (ht _ wC_712) rfl d_MO_call_95 ?_
                refine lv_iload_n hx hb d_MO_call_98 rfl (lv_at hl 3 rfl) ?_
                refine lv_aload_n hx hb d_MO_call_99 rfl (lv_at hl 2 rfl) ?_
                refine cw_get (C := R_MO) (T := F_MO) (N := 39) (v := .double (gX σ 0)) hx hb hts (in_MO _) hown hK hP 0 (by decide) rfl rfl 38 (by decide) (ht _ wC_720) rfl d_MO_call_100 ?_
                refine cw_dast hx hb hK hP hi hS 23 (by decide) rfl 1 rfl hq.1 mpd_4 d_MO_call_103 (fun H locs hP hS => ?_)
                have hq := hq.2
                obtain ⟨s88, e_s88⟩ : ∃ z, z = sD σ 4 (vf_upd (gD σ 4) p1.toNatClampNeg (gX σ 0)) := ⟨_, rfl⟩
                rw [← e_s88] at hP
                have hq := hq s88 e_s88
                refine lv_iload hx hb d_MO_call_104 (lv_at hl 0 rfl) ?_
                refine lv_iconst (v := 2) hx hb d_MO_call_106 (by decide) ?_
                refine lv_icmp_ne (tgt := 120) hx hb d_MO_call_107 (by decide) (fun c89 => ?_) (fun c89 => ?_)
                · have hq := hq.2 c89
                  refine lv_iload hx hb d_MO_call_120 (lv_at hl 0 rfl) ?_
                  refine lv_istore (lv' := [(5, .int (gA σ 13 p1.toNatClampNeg)), (4, .int (gA σ 13 p1.toNatClampNeg)), (3, .int (gA σ 1 p2.toNatClampNeg)), (0, .ref (am 0)), (1, .int p1), (2, .int p2)]) hx hb d_MO_call_122 hl (by decide) rfl (fun ls hl => ?_)
                  obtain ⟨fu, hq⟩ := hq
                  exact loop_124 fu (gA σ 13 p1.toNatClampNeg) (gA σ 13 p1.toNatClampNeg) (gA σ 1 p2.toNatClampNeg) s88 _ _ ls hq hP hS (lv_sub hl [0, 1, 2, 3, 4, 5] rfl)
                · have hq := hq.1 c89
                  refine lv_aload_n hx hb d_MO_call_110 rfl (lv_at hl 2 rfl) ?_
                  refine cw_get (C := R_MO) (T := F_MO) (N := 39) (v := .ref (am 24)) hx hb hts (in_MO _) hown hK hP 0 (by decide) rfl rfl 31 (by decide) (ht _ wC_713) rfl d_MO_call_111 ?_
                  refine lv_iload_n hx hb d_MO_call_114 rfl (lv_at hl 3 rfl) ?_
                  refine lv_aload_n hx hb d_MO_call_115 rfl (lv_at hl 2 rfl) ?_
                  refine cw_get (C := R_MO) (T := F_MO) (N := 39) (v := .double (gX s88 0)) hx hb hts (in_MO _) hown hK hP 0 (by decide) rfl rfl 38 (by decide) (ht _ wC_720) rfl d_MO_call_116 ?_
                  refine cw_dast hx hb hK hP hi hS 24 (by decide) rfl 1 rfl hq.1 mpd_5 d_MO_call_119 (fun H locs hP hS => ?_)
                  have hq := hq.2
                  obtain ⟨s90, e_s90⟩ : ∃ z, z = sD s88 5 (vf_upd (gD s88 5) p1.toNatClampNeg (gX s88 0)) := ⟨_, rfl⟩
                  rw [← e_s90] at hP
                  have hq := hq s90 e_s90
                  refine lv_iload hx hb d_MO_call_120 (lv_at hl 0 rfl) ?_
                  refine lv_istore (lv' := [(5, .int (gA σ 13 p1.toNatClampNeg)), (4, .int (gA σ 13 p1.toNatClampNeg)), (3, .int (gA σ 1 p2.toNatClampNeg)), (0, .ref (am 0)), (1, .int p1), (2, .int p2)]) hx hb d_MO_call_122 hl (by decide) rfl (fun ls hl => ?_)
                  obtain ⟨fu, hq⟩ := hq
                  exact loop_124 fu (gA σ 13 p1.toNatClampNeg) (gA σ 13 p1.toNatClampNeg) (gA σ 1 p2.toNatClampNeg) s90 _ _ ls hq hP hS (lv_sub hl [0, 1, 2, 3, 4, 5] rfl)
            · have hq := hq.1 c84
              refine lv_aload_n hx hb d_MO_call_79 rfl (lv_at hl 2 rfl) ?_
              refine lv_aload_n hx hb d_MO_call_80 rfl (lv_at hl 2 rfl) ?_
              refine cw_get (C := R_MO) (T := F_MO) (N := 39) (v := .double (gX σ 0)) hx hb hts (in_MO _) hown hK hP 0 (by decide) rfl rfl 38 (by decide) (ht _ wC_720) rfl d_MO_call_81 ?_
              refine va_callv (va_runV (As := [.double (gX σ 0)]) (rest := []) ⟨hx, hb, hml, hown, hts⟩ (c_MO_end (D := D) (cs := cs) hi hq) (cwV 1 hts (good_V wC_864 wC_866 wC_29 wC_50 wC_867) rfl rfl rfl (by decide +kernel) ⟨(show 0 + 1 ≤ 2 by omega), (show 8 + (3 + 11) + 0 ≤ 43 by omega)⟩) ⟨mP_blind, va_recv hK hP (ci := 5) (q0 := 0) rfl (wd_at (by decide) rfl), fun U hU hW => ⟨rfl, by rw [hU]; exact hP, va_K.moved hW.alike hK, hN.warm hW⟩⟩ rfl rfl hl.1 rfl (lv_room (Nat.le_of_ble_eq_true rfl)) d_MO_call_84 ⟨Nat.le_of_ble_eq_true rfl, Nat.le_of_ble_eq_true rfl⟩) hS (fun q _ h => h) (fun q h => h) (fun s92 t H locs ht0 hvm hq hB hz1 hk1 hS => ?_)
              obtain ⟨hP, -, -⟩ := hB
              rw [ht0] at hP
              exact W.vret hx hb hr (fun t ht hW => ⟨⟨s92, rfl, hq, by rw [ht]; exact hP, va_K.moved hW.alike hK, hN.warm hW⟩, hS.F ht⟩) hS.2.2 d_MO_call_87
          · have hq := hq.2 c83
            refine lv_aload_n hx hb d_MO_call_57 rfl (lv_at hl 2 rfl) ?_
            refine cw_get (C := R_MO) (T := F_MO) (N := 39) (v := .ref (am 4)) hx hb hts (in_MO _) hown hK hP 0 (by decide) rfl rfl 3 (by decide) (ht _ wC_685) rfl d_MO_call_58 ?_
            refine lv_iload_n hx hb d_MO_call_61 rfl (lv_at hl 4 rfl) ?_
            refine cw_iald hx hb hK hP 4 (by decide) rfl 0 rfl hq.1 d_MO_call_62 ?_
            have hq := hq.2
            refine lv_if_ge (tgt := 72) hx hb d_MO_call_63 (by decide) (fun c93 => ?_) (fun c93 => ?_)
            · have hq := hq.1 c93
              refine lv_iload hx hb d_MO_call_72 (lv_at hl 0 rfl) ?_
              refine lv_bipush (v := 9) hx hb d_MO_call_74 (by decide) ?_
              refine lv_icmp_ne (tgt := 88) hx hb d_MO_call_76 (by decide) (fun c94 => ?_) (fun c94 => ?_)
              · have hq := hq.2 c94
                refine lv_iload hx hb d_MO_call_88 (lv_at hl 0 rfl) ?_
                refine lv_iconst (v := 1) hx hb d_MO_call_90 (by decide) ?_
                refine lv_icmp_ne (tgt := 104) hx hb d_MO_call_91 (by decide) (fun c95 => ?_) (fun c95 => ?_)
                · have hq := hq.2 c95
                  refine lv_iload hx hb d_MO_call_104 (lv_at hl 0 rfl) ?_
                  refine lv_iconst (v := 2) hx hb d_MO_call_106 (by decide) ?_
                  refine lv_icmp_ne (tgt := 120) hx hb d_MO_call_107 (by decide) (fun c96 => ?_) (fun c96 => ?_)
                  · have hq := hq.2 c96
                    refine lv_iload hx hb d_MO_call_120 (lv_at hl 0 rfl) ?_
                    refine lv_istore (lv' := [(5, .int (gA σ 13 p1.toNatClampNeg)), (4, .int (gA σ 13 p1.toNatClampNeg)), (3, .int (gA σ 1 p2.toNatClampNeg)), (0, .ref (am 0)), (1, .int p1), (2, .int p2)]) hx hb d_MO_call_122 hl (by decide) rfl (fun ls hl => ?_)
                    obtain ⟨fu, hq⟩ := hq
                    exact loop_124 fu (gA σ 13 p1.toNatClampNeg) (gA σ 13 p1.toNatClampNeg) (gA σ 1 p2.toNatClampNeg) σ _ _ ls hq hP hS (lv_sub hl [0, 1, 2, 3, 4, 5] rfl)
                  · have hq := hq.1 c96
                    refine lv_aload_n hx hb d_MO_call_110 rfl (lv_at hl 2 rfl) ?_
                    refine cw_get (C := R_MO) (T := F_MO) (N := 39) (v := .ref (am 24)) hx hb hts (in_MO _) hown hK hP 0 (by decide) rfl rfl 31 (by decide) (ht _ wC_713) rfl d_MO_call_111 ?_
                    refine lv_iload_n hx hb d_MO_call_114 rfl (lv_at hl 3 rfl) ?_
                    refine lv_aload_n hx hb d_MO_call_115 rfl (lv_at hl 2 rfl) ?_
                    refine cw_get (C := R_MO) (T := F_MO) (N := 39) (v := .double (gX σ 0)) hx hb hts (in_MO _) hown hK hP 0 (by decide) rfl rfl 38 (by decide) (ht _ wC_720) rfl d_MO_call_116 ?_
                    refine cw_dast hx hb hK hP hi hS 24 (by decide) rfl 1 rfl hq.1 mpd_5 d_MO_call_119 (fun H locs hP hS => ?_)
                    have hq := hq.2
                    obtain ⟨s97, e_s97⟩ : ∃ z, z = sD σ 5 (vf_upd (gD σ 5) p1.toNatClampNeg (gX σ 0)) := ⟨_, rfl⟩
                    rw [← e_s97] at hP
                    have hq := hq s97 e_s97
                    refine lv_iload hx hb d_MO_call_120 (lv_at hl 0 rfl) ?_
                    refine lv_istore (lv' := [(5, .int (gA σ 13 p1.toNatClampNeg)), (4, .int (gA σ 13 p1.toNatClampNeg)), (3, .int (gA σ 1 p2.toNatClampNeg)), (0, .ref (am 0)), (1, .int p1), (2, .int p2)]) hx hb d_MO_call_122 hl (by decide) rfl (fun ls hl => ?_)
                    obtain ⟨fu, hq⟩ := hq
                    exact loop_124 fu (gA σ 13 p1.toNatClampNeg) (gA σ 13 p1.toNatClampNeg) (gA σ 1 p2.toNatClampNeg) s97 _ _ ls hq hP hS (lv_sub hl [0, 1, 2, 3, 4, 5] rfl)
                · have hq := hq.1 c95
                  refine lv_aload_n hx hb d_MO_call_94 rfl (lv_at hl 2 rfl) ?_
                  refine cw_get (C := R_MO) (T := F_MO) (N := 39) (v := .ref (am 23)) hx hb hts (in_MO _) hown hK hP 0 (by decide) rfl rfl 30 (by decide) (ht _ wC_712) rfl d_MO_call_95 ?_
                  refine lv_iload_n hx hb d_MO_call_98 rfl (lv_at hl 3 rfl) ?_
                  refine lv_aload_n hx hb d_MO_call_99 rfl (lv_at hl 2 rfl) ?_
                  refine cw_get (C := R_MO) (T := F_MO) (N := 39) (v := .double (gX σ 0)) hx hb hts (in_MO _) hown hK hP 0 (by decide) rfl rfl 38 (by decide) (ht _ wC_720) rfl d_MO_call_100 ?_
                  refine cw_dast hx hb hK hP hi hS 23 (by decide) rfl 1 rfl hq.1 mpd_4 d_MO_call_103 (fun H locs hP hS => ?_)
                  have hq := hq.2
                  obtain ⟨s98, e_s98⟩ : ∃ z, z = sD σ 4 (vf_upd (gD σ 4) p1.toNatClampNeg (gX σ 0)) := ⟨_, rfl⟩
                  rw [← e_s98] at hP
                  have hq := hq s98 e_s98
                  refine lv_iload hx hb d_MO_call_104 (lv_at hl 0 rfl) ?_
                  refine lv_iconst (v := 2) hx hb d_MO_call_106 (by decide) ?_
                  refine lv_icmp_ne (tgt := 120) hx hb d_MO_call_107 (by decide) (fun c99 => ?_) (fun c99 => ?_)
                  · have hq := hq.2 c99
                    refine lv_iload hx hb d_MO_call_120 (lv_at hl 0 rfl) ?_
                    refine lv_istore (lv' := [(5, .int (gA σ 13 p1.toNatClampNeg)), (4, .int (gA σ 13 p1.toNatClampNeg)), (3, .int (gA σ 1 p2.toNatClampNeg)), (0, .ref (am 0)), (1, .int p1), (2, .int p2)]) hx hb d_MO_call_122 hl (by decide) rfl (fun ls hl => ?_)
                    obtain ⟨fu, hq⟩ := hq
                    exact loop_124 fu (gA σ 13 p1.toNatClampNeg) (gA σ 13 p1.toNatClampNeg) (gA σ 1 p2.toNatClampNeg) s98 _ _ ls hq hP hS (lv_sub hl [0, 1, 2, 3, 4, 5] rfl)
                  · have hq := hq.1 c99
                    refine lv_aload_n hx hb d_MO_call_110 rfl (lv_at hl 2 rfl) ?_
                    refine cw_get (C := R_MO) (T := F_MO) (N := 39) (v := .ref (am 24)) hx hb hts (in_MO _) hown hK hP 0 (by decide) rfl rfl 31 (by decide) (ht _ wC_713) rfl d_MO_call_111 ?_
                    refine lv_iload_n hx hb d_MO_call_114 rfl (lv_at hl 3 rfl) ?_
                    refine lv_aload_n hx hb d_MO_call_115 rfl (lv_at hl 2 rfl) ?_
                    refine cw_get (C := R_MO) (T := F_MO) (N := 39) (v := .double (gX s98 0)) hx hb hts (in_MO _) hown hK hP 0 (by decide) rfl rfl 38 (by decide) (ht _ wC_720) rfl d_MO_call_116 ?_
                    refine cw_dast hx hb hK hP hi hS 24 (by decide) rfl 1 rfl hq.1 mpd_5 d_MO_call_119 (fun H locs hP hS => ?_)
                    have hq := hq.2
                    obtain ⟨s100, e_s100⟩ : ∃ z, z = sD s98 5 (vf_upd (gD s98 5) p1.toNatClampNeg (gX s98 0)) := ⟨_, rfl⟩
                    rw [← e_s100] at hP
                    have hq := hq s100 e_s100
                    refine lv_iload hx hb d_MO_call_120 (lv_at hl 0 rfl) ?_
                    refine lv_istore (lv' := [(5, .int (gA σ 13 p1.toNatClampNeg)), (4, .int (gA σ 13 p1.toNatClampNeg)), (3, .int (gA σ 1 p2.toNatClampNeg)), (0, .ref (am 0)), (1, .int p1), (2, .int p2)]) hx hb d_MO_call_122 hl (by decide) rfl (fun ls hl => ?_)
                    obtain ⟨fu, hq⟩ := hq
                    exact loop_124 fu (gA σ 13 p1.toNatClampNeg) (gA σ 13 p1.toNatClampNeg) (gA σ 1 p2.toNatClampNeg) s100 _ _ ls hq hP hS (lv_sub hl [0, 1, 2, 3, 4, 5] rfl)
              · have hq := hq.1 c94
                refine lv_aload_n hx hb d_MO_call_79 rfl (lv_at hl 2 rfl) ?_
                refine lv_aload_n hx hb d_MO_call_80 rfl (lv_at hl 2 rfl) ?_
                refine cw_get (C := R_MO) (T := F_MO) (N := 39) (v := .double (gX σ 0)) hx hb hts (in_MO _) hown hK hP 0 (by decide) rfl rfl 38 (by decide) (ht _ wC_720) rfl d_MO_call_81 ?_
                refine va_callv (va_runV (As := [.double (gX σ 0)]) (rest := []) ⟨hx, hb, hml, hown, hts⟩ (c_MO_end (D := D) (cs := cs) hi hq) (cwV 1 hts (good_V wC_864 wC_866 wC_29 wC_50 wC_867) rfl rfl rfl (by decide +kernel) ⟨(show 0 + 1 ≤ 2 by omega), (show 8 + (3 + 11) + 0 ≤ 43 by omega)⟩) ⟨mP_blind, va_recv hK hP (ci := 5) (q0 := 0) rfl (wd_at (by decide) rfl), fun U hU hW => ⟨rfl, by rw [hU]; exact hP, va_K.moved hW.alike hK, hN.warm hW⟩⟩ rfl rfl hl.1 rfl (lv_room (Nat.le_of_ble_eq_true rfl)) d_MO_call_84 ⟨Nat.le_of_ble_eq_true rfl, Nat.le_of_ble_eq_true rfl⟩) hS (fun q _ h => h) (fun q h => h) (fun s102 t H locs ht0 hvm hq hB hz1 hk1 hS => ?_)
                obtain ⟨hP, -, -⟩ := hB
                rw [ht0] at hP
                exact W.vret hx hb hr (fun t ht hW => ⟨⟨s102, rfl, hq, by rw [ht]; exact hP, va_K.moved hW.alike hK, hN.warm hW⟩, hS.F ht⟩) hS.2.2 d_MO_call_87
            · have hq := hq.2 c93
              refine lv_aload_n hx hb d_MO_call_66 rfl (lv_at hl 2 rfl) ?_
              refine lv_iconst (v := 4) hx hb d_MO_call_67 (by decide) ?_
              refine va_callv (va_runV (As := [.int 4]) (rest := []) ⟨hx, hb, hml, hown, hts⟩ (c_MO_wrong (D := D) (cs := cs) hi hq) (cwV 1 hts (good_V wC_855 wC_857 wC_27 wC_50 wC_858) rfl rfl rfl (by decide +kernel) ⟨(show 0 + 1 ≤ 2 by omega), (show 8 + (2 + 11) + 0 ≤ 43 by omega)⟩) ⟨mP_blind, va_recv hK hP (ci := 5) (q0 := 0) rfl (wd_at (by decide) rfl), fun U hU hW => ⟨rfl, by rw [hU]; exact hP, va_K.moved hW.alike hK, hN.warm hW⟩⟩ rfl rfl hl.1 rfl (lv_room (Nat.le_of_ble_eq_true rfl)) d_MO_call_68 ⟨Nat.le_of_ble_eq_true rfl, Nat.le_of_ble_eq_true rfl⟩) hS (fun q _ h => h) (fun q h => h) (fun s104 t H locs ht0 hvm hq hB hz1 hk1 hS => ?_)
              obtain ⟨hP, -, -⟩ := hB
              rw [ht0] at hP
              exact W.vret hx hb hr (fun t ht hW => ⟨⟨s104, rfl, hq, by rw [ht]; exact hP, va_K.moved hW.alike hK, hN.warm hW⟩, hS.F ht⟩) hS.2.2 d_MO_call_71
def wp_MO_isGoal (p1 : Int32) (σ : CS) (Q : Int32 → CS → Prop) : Prop := ((p1 = 1 → Q 1 σ) ∧ (¬ p1 = 1 → ((p1 = 2 → Q 1 σ) ∧ (¬ p1 = 2 → ((p1 = 10 → Q 1 σ) ∧ (¬ p1 = 10 → ((p1 = 11 → Q 1 σ) ∧ (¬ p1 = 11 → Q 0 σ))))))))
set_option maxHeartbeats 4000000 in
set_option maxRecDepth 100000 in
theorem c_MO_isGoal {l : Launch} {D : va_G} {cs : CI} {am : Nat → Nat} (hi : aI am 25) {p1 : Int32} {σ : CS} {Q : Int32 → CS → Prop} (hq : wp_MO_isGoal p1 σ Q) : Met l y_MO_isGoal (.code y_MO_isGoal b_MO_isGoal 1 (some .boolean) :: wC) ({ frames := 0, cells := 0, slots := 0, locals := 0 }) (va_Pc [.int p1] (mP D cs am σ)) (va_Qi Q (mP D cs am) (aK am 25)) 0 0 (aK am 25) := by
  refine Met.ofW (cc := b_MO_isGoal) (maxL := 1) (ret := (some .boolean)) (by decide) rfl ?_
  intro p e s m args below meth c s₁ B hml hv
  obtain ⟨rfl, hP, hK, hN⟩ := hv
  have hx := B.exec
  have hb := B.bytes
  have hr := B.returns
  have hts := atoms_spec (ws := .code y_MO_isGoal b_MO_isGoal 1 (some .boolean) :: wC) B.pre
  have ht : ∀ w ∈ wC, w.before _ s = true := fun w h => hts w (List.mem_cons_of_mem _ h)
  have hown : s.vm.findClass R_MO = some m.cls := findClass_of_methodNamed B.named
  have hlocks := B.notSynchronized
  have hS : va_S (aK am 25) s.heap s.heap [] := va_S.rf
  have hl := lv_entry ([.int p1]) (n := 1) (Nat.le_of_ble_eq_true rfl)
  rw [lg_entry_eq]
  generalize (lg_sl ([.int p1]) ++ List.replicate (1 - (lg_sl ([.int p1])).length) Slot.unset).toArray = ls at hl ⊢
  have hl : lv_has ls 1 [(0, .int p1)] := hl
  unfold wp_MO_isGoal at hq
  have hh8 : 8 < 9 := by decide
  refine lv_iload_n hx hb d_MO_isGoal_0 rfl (lv_at hl 0 rfl) ?_
  refine lv_iconst (v := 1) hx hb d_MO_isGoal_1 (by decide) ?_
  refine lv_icmp_eq (tgt := 22) hx hb d_MO_isGoal_2 (by decide) (fun c1 => ?_) (fun c1 => ?_)
  · have hq := hq.1 c1
    refine lv_iconst (v := 1) hx hb d_MO_isGoal_22 (by decide) ?_
    refine lv_goto (tgt := 27) hx hb d_MO_isGoal_23 (by decide) ?_
    exact W.zret hx hb hr rfl (fun t ht hW => ⟨⟨1, σ, rfl, hq, by rw [ht]; exact hP, va_K.moved hW.alike hK, hN.warm hW⟩, hS.F ht⟩) hS.2.2 d_MO_isGoal_27
  · have hq := hq.2 c1
    refine lv_iload_n hx hb d_MO_isGoal_5 rfl (lv_at hl 0 rfl) ?_
    refine lv_iconst (v := 2) hx hb d_MO_isGoal_6 (by decide) ?_
    refine lv_icmp_eq (tgt := 22) hx hb d_MO_isGoal_7 (by decide) (fun c2 => ?_) (fun c2 => ?_)
    · have hq := hq.1 c2
      refine lv_iconst (v := 1) hx hb d_MO_isGoal_22 (by decide) ?_
      refine lv_goto (tgt := 27) hx hb d_MO_isGoal_23 (by decide) ?_
      exact W.zret hx hb hr rfl (fun t ht hW => ⟨⟨1, σ, rfl, hq, by rw [ht]; exact hP, va_K.moved hW.alike hK, hN.warm hW⟩, hS.F ht⟩) hS.2.2 d_MO_isGoal_27
    · have hq := hq.2 c2
      refine lv_iload_n hx hb d_MO_isGoal_10 rfl (lv_at hl 0 rfl) ?_
      refine lv_bipush (v := 10) hx hb d_MO_isGoal_11 (by decide) ?_
      refine lv_icmp_eq (tgt := 22) hx hb d_MO_isGoal_13 (by decide) (fun c3 => ?_) (fun c3 => ?_)
      · have hq := hq.1 c3
        refine lv_iconst (v := 1) hx hb d_MO_isGoal_22 (by decide) ?_
        refine lv_goto (tgt := 27) hx hb d_MO_isGoal_23 (by decide) ?_
        exact W.zret hx hb hr rfl (fun t ht hW => ⟨⟨1, σ, rfl, hq, by rw [ht]; exact hP, va_K.moved hW.alike hK, hN.warm hW⟩, hS.F ht⟩) hS.2.2 d_MO_isGoal_27
      · have hq := hq.2 c3
        refine lv_iload_n hx hb d_MO_isGoal_16 rfl (lv_at hl 0 rfl) ?_
        refine lv_bipush (v := 11) hx hb d_MO_isGoal_17 (by decide) ?_
        refine lv_icmp_ne (tgt := 26) hx hb d_MO_isGoal_19 (by decide) (fun c4 => ?_) (fun c4 => ?_)
        · have hq := hq.2 c4
          refine lv_iconst (v := 0) hx hb d_MO_isGoal_26 (by decide) ?_
          exact W.zret hx hb hr rfl (fun t ht hW => ⟨⟨0, σ, rfl, hq, by rw [ht]; exact hP, va_K.moved hW.alike hK, hN.warm hW⟩, hS.F ht⟩) hS.2.2 d_MO_isGoal_27
        · have hq := hq.1 c4
          refine lv_iconst (v := 1) hx hb d_MO_isGoal_22 (by decide) ?_
          refine lv_goto (tgt := 27) hx hb d_MO_isGoal_23 (by decide) ?_
          exact W.zret hx hb hr rfl (fun t ht hW => ⟨⟨1, σ, rfl, hq, by rw [ht]; exact hP, va_K.moved hW.alike hK, hN.warm hW⟩, hS.F ht⟩) hS.2.2 d_MO_isGoal_27
def lp_MO_follow_0 (p1 : Int32) (Q : CS → Prop) : Nat → CS → Prop
  | 0 => fun _ => False
  | k + 1 => fun  σ => (((gI σ 10) = 0 → (vp_in p1 310 ∧ (vp_in (gA σ 16 p1.toNatClampNeg) 48 ∧ (((gA σ 0 ((gA σ 16 p1.toNatClampNeg).toNatClampNeg)) = 10 → (vp_in p1 310 ∧ (vp_in p1 310 ∧ (vp_in (gA σ 16 p1.toNatClampNeg) 48 ∧ (wp_MO_isThere (gA σ 17 p1.toNatClampNeg) (gA σ 1 ((gA σ 16 p1.toNatClampNeg).toNatClampNeg)) σ (fun r3 s4 => ((r3 = 0 → (wp_MO_wrong 4 s4 (fun s22 => lp_MO_follow_0 p1 Q k  s22))) ∧ (¬ r3 = 0 → (wp_MO_isName (gA σ 17 p1.toNatClampNeg) (gA σ 1 ((gA σ 16 p1.toNatClampNeg).toNatClampNeg)) s4 (fun r6 s7 => ((r6 = 0 → Q s7) ∧ (¬ r6 = 0 → (vp_in ((2 * (gA σ 17 p1.toNatClampNeg)) + (gA σ 1 ((gA σ 16 p1.toNatClampNeg).toNatClampNeg))) 20 ∧ ((0 ≤ (gA s7 7 (((2 * (gA σ 17 p1.toNatClampNeg)) + (gA σ 1 ((gA σ 16 p1.toNatClampNeg).toNatClampNeg))).toNatClampNeg)) → (vp_in ((2 * (gA σ 17 p1.toNatClampNeg)) + (gA σ 1 ((gA σ 16 p1.toNatClampNeg).toNatClampNeg))) 20 ∧ (vp_in (gA s7 7 (((2 * (gA σ 17 p1.toNatClampNeg)) + (gA σ 1 ((gA σ 16 p1.toNatClampNeg).toNatClampNeg))).toNatClampNeg)) 48 ∧ (wp_MO_isGoal (gA s7 0 ((gA s7 7 (((2 * (gA σ 17 p1.toNatClampNeg)) + (gA σ 1 ((gA σ 16 p1.toNatClampNeg).toNatClampNeg))).toNatClampNeg)).toNatClampNeg)) s7 (fun r10 s11 => ((r10 = 0 → (wp_MO_wrong 6 s11 (fun s18 => lp_MO_follow_0 p1 Q k  s18))) ∧ (¬ r10 = 0 → (wp_MO_deeper  s11 (fun s14 => (vp_in ((2 * (gA σ 17 p1.toNatClampNeg)) + (gA σ 1 ((gA σ 16 p1.toNatClampNeg).toNatClampNeg))) 20 ∧ (vp_in p1 310 ∧ (∀ s15 : CS, s15 = sA s14 16 (upd (gA s14 16) p1.toNatClampNeg (gA s14 7 (((2 * (gA σ 17 p1.toNatClampNeg)) + (gA σ 1 ((gA σ 16 p1.toNatClampNeg).toNatClampNeg))).toNatClampNeg))) → (vp_in ((2 * (gA σ 17 p1.toNatClampNeg)) + (gA σ 1 ((gA σ 16 p1.toNatClampNeg).toNatClampNeg))) 20 ∧ (vp_in p1 310 ∧ (∀ s16 : CS, s16 = sA s15 17 (upd (gA s15 17) p1.toNatClampNeg (gA s15 8 (((2 * (gA σ 17 p1.toNatClampNeg)) + (gA σ 1 ((gA σ 16 p1.toNatClampNeg).toNatClampNeg))).toNatClampNeg))) → lp_MO_follow_0 p1 Q k  s16))))))))))))))) ∧ (¬ 0 ≤ (gA s7 7 (((2 * (gA σ 17 p1.toNatClampNeg)) + (gA σ 1 ((gA σ 16 p1.toNatClampNeg).toNatClampNeg))).toNatClampNeg)) → (wp_MO_wrong 4 s7 (fun s20 => lp_MO_follow_0 p1 Q k  s20))))))))))))))))) ∧ (¬ (gA σ 0 ((gA σ 16 p1.toNatClampNeg).toNatClampNeg)) = 10 → Q σ))))) ∧ (¬ (gI σ 10) = 0 → Q σ))
def wp_MO_follow (p1 : Int32) (σ : CS) (Q : CS → Prop) : Prop := (∃ fu : Nat, lp_MO_follow_0 p1 Q fu  σ)
set_option maxHeartbeats 4000000 in
set_option maxRecDepth 100000 in
theorem c_MO_follow {l : Launch} {D : va_G} {cs : CI} {am : Nat → Nat} (hi : aI am 25) {p1 : Int32} {σ : CS} {Q : CS → Prop} (hq : wp_MO_follow p1 σ Q) : Met l y_MO_follow (.code y_MO_follow b_MO_follow 4 none :: wC) ({ frames := 2, cells := 0, slots := 0, locals := 41 }) (va_Pc [.ref (am 0), .int p1] (mP D cs am σ)) (va_Qv Q (mP D cs am) (aK am 25)) 0 0 (aK am 25) := by
  refine Met.ofW (cc := b_MO_follow) (maxL := 4) (ret := none) (by decide) rfl ?_
  intro p e s m args below meth c s₁ B hml hv
  obtain ⟨rfl, hP, hK, hN⟩ := hv
  have hx := B.exec
  have hb := B.bytes
  have hr := B.returns
  have hts := atoms_spec (ws := .code y_MO_follow b_MO_follow 4 none :: wC) B.pre
  have ht : ∀ w ∈ wC, w.before _ s = true := fun w h => hts w (List.mem_cons_of_mem _ h)
  have hown : s.vm.findClass R_MO = some m.cls := findClass_of_methodNamed B.named
  have hlocks := B.notSynchronized
  have hS : va_S (aK am 25) s.heap s.heap [] := va_S.rf
  have hl := lv_entry ([.ref (am 0), .int p1]) (n := 4) (Nat.le_of_ble_eq_true rfl)
  rw [lg_entry_eq]
  generalize (lg_sl ([.ref (am 0), .int p1]) ++ List.replicate (4 - (lg_sl ([.ref (am 0), .int p1])).length) Slot.unset).toArray = ls at hl ⊢
  have hl : lv_has ls 4 [(0, .ref (am 0)), (1, .int p1)] := hl
  unfold wp_MO_follow at hq
  have hh8 : 8 < 9 := by decide
  have loop_0 : ∀ (k : Nat)  (σ : CS) (H : Heap) (locs : List Loc) (ls : Array Slot), lp_MO_follow_0 p1 Q k  σ → va_P D clA (wd am (contM am cs σ) 25) H → va_S (aK am 25) s.heap H locs → lv_has ls 4 [(0, .ref (am 0)), (1, .int p1)] → W p l e (headSpec (.code y_MO_follow b_MO_follow 4 none :: wC) ({ frames := 2, cells := 0, slots := 0, locals := 41 })).room s m ([.ref (am 0), .int p1] : List Value).toArray below meth c H locs 0 0 (MQ below (va_Qv Q (mP D cs am) (aK am 25)) ([.ref (am 0), .int p1] : List Value).toArray s 0 0 (aK am 25)) (F0 m 0 ls []) := by
    intro k
    induction k with
    | zero => intro  σ H locs ls hq; exact hq.elim
    | succ k ih =>
      intro  σ H locs ls hq hP hS hl
      unfold lp_MO_follow_0 at hq
      refine lv_aload_n hx hb d_MO_follow_0 rfl (lv_at hl 0 rfl) ?_
      refine cw_get (C := R_MO) (T := F_MO) (N := 39) (v := .int (gI σ 10)) hx hb hts (in_MO _) hown hK hP 0 (by decide) rfl rfl 34 (by decide) (ht _ wC_716) rfl d_MO_follow_1 ?_
      refine lv_if_ne (tgt := 159) hx hb d_MO_follow_4 (by decide) (fun c1 => ?_) (fun c1 => ?_)
      · have hq := hq.2 c1
        exact W.vret hx hb hr (fun t ht hW => ⟨⟨σ, rfl, hq, by rw [ht]; exact hP, va_K.moved hW.alike hK, hN.warm hW⟩, hS.F ht⟩) hS.2.2 d_MO_follow_159
      · have hq := hq.1 c1
        refine lv_aload_n hx hb d_MO_follow_7 rfl (lv_at hl 0 rfl) ?_
        refine cw_get (C := R_MO) (T := F_MO) (N := 39) (v := .ref (am 1)) hx hb hts (in_MO _) hown hK hP 0 (by decide) rfl rfl 0 (by decide) (ht _ wC_682) rfl d_MO_follow_8 ?_
        refine lv_aload_n hx hb d_MO_follow_11 rfl (lv_at hl 0 rfl) ?_
        refine cw_get (C := R_MO) (T := F_MO) (N := 39) (v := .ref (am 21)) hx hb hts (in_MO _) hown hK hP 0 (by decide) rfl rfl 28 (by decide) (ht _ wC_710) rfl d_MO_follow_12 ?_
        refine lv_iload_n hx hb d_MO_follow_15 rfl (lv_at hl 1 rfl) ?_
        refine cw_iald hx hb hK hP 21 (by decide) rfl 0 rfl hq.1 d_MO_follow_16 ?_
        have hq := hq.2
        refine cw_iald hx hb hK hP 1 (by decide) rfl 0 rfl hq.1 d_MO_follow_17 ?_
        have hq := hq.2
        refine lv_bipush (v := 10) hx hb d_MO_follow_18 (by decide) ?_
        refine lv_icmp_ne (tgt := 159) hx hb d_MO_follow_20 (by decide) (fun c2 => ?_) (fun c2 => ?_)
        · have hq := hq.2 c2
          exact W.vret hx hb hr (fun t ht hW => ⟨⟨σ, rfl, hq, by rw [ht]; exact hP, va_K.moved hW.alike hK, hN.warm hW⟩, hS.F ht⟩) hS.2.2 d_MO_follow_159
        · have hq := hq.1 c2
          refine lv_aload_n hx hb d_MO_follow_23 rfl (lv_at hl 0 rfl) ?_
          refine cw_get (C := R_MO) (T := F_MO) (N := 39) (v := .ref (am 22)) hx hb hts (in_MO _) hown hK hP 0 (by decide) rfl rfl 29 (by decide) (ht _ wC_711) rfl d_MO_follow_24 ?_
          refine lv_iload_n hx hb d_MO_follow_27 rfl (lv_at hl 1 rfl) ?_
          refine cw_iald hx hb hK hP 22 (by decide) rfl 0 rfl hq.1 d_MO_follow_28 ?_
          have hq := hq.2
          refine lv_istore_n (lv' := [(2, .int (gA σ 17 p1.toNatClampNeg)), (0, .ref (am 0)), (1, .int p1)]) hx hb d_MO_follow_29 rfl hl (by decide) rfl (fun ls hl => ?_)
          refine lv_aload_n hx hb d_MO_follow_30 rfl (lv_at hl 1 rfl) ?_
          refine cw_get (C := R_MO) (T := F_MO) (N := 39) (v := .ref (am 2)) hx hb hts (in_MO _) hown hK hP 0 (by decide) rfl rfl 1 (by decide) (ht _ wC_683) rfl d_MO_follow_31 ?_
          refine lv_aload_n hx hb d_MO_follow_34 rfl (lv_at hl 1 rfl) ?_
          refine cw_get (C := R_MO) (T := F_MO) (N := 39) (v := .ref (am 21)) hx hb hts (in_MO _) hown hK hP 0 (by decide) rfl rfl 28 (by decide) (ht _ wC_710) rfl d_MO_follow_35 ?_
          refine lv_iload_n hx hb d_MO_follow_38 rfl (lv_at hl 2 rfl) ?_
          refine cw_iald hx hb hK hP 21 (by decide) rfl 0 rfl hq.1 d_MO_follow_39 ?_
          have hq := hq.2
          refine cw_iald hx hb hK hP 2 (by decide) rfl 0 rfl hq.1 d_MO_follow_40 ?_
          have hq := hq.2
          refine lv_istore_n (lv' := [(3, .int (gA σ 1 ((gA σ 16 p1.toNatClampNeg).toNatClampNeg))), (2, .int (gA σ 17 p1.toNatClampNeg)), (0, .ref (am 0)), (1, .int p1)]) hx hb d_MO_follow_41 rfl hl (by decide) rfl (fun ls hl => ?_)
          refine lv_aload_n hx hb d_MO_follow_42 rfl (lv_at hl 2 rfl) ?_
          refine lv_iload_n hx hb d_MO_follow_43 rfl (lv_at hl 1 rfl) ?_
          refine lv_iload_n hx hb d_MO_follow_44 rfl (lv_at hl 0 rfl) ?_
          refine va_calli (va_runV (As := [.int (gA σ 17 p1.toNatClampNeg), .int (gA σ 1 ((gA σ 16 p1.toNatClampNeg).toNatClampNeg))]) (rest := []) ⟨hx, hb, hml, hown, hts⟩ (c_MO_isThere (D := D) (cs := cs) hi hq) (cwV 2 hts (good_V wC_872 wC_874 wC_31 wC_50 wC_875) rfl rfl rfl (by decide +kernel) ⟨(show 0 + 1 ≤ 2 by omega), (show 8 + (3 + 11) + 0 ≤ 41 by omega)⟩) ⟨mP_blind, va_recv hK hP (ci := 5) (q0 := 0) rfl (wd_at (by decide) rfl), fun U hU hW => ⟨rfl, by rw [hU]; exact hP, va_K.moved hW.alike hK, hN.warm hW⟩⟩ rfl rfl hl.1 rfl (lv_room (Nat.le_of_ble_eq_true rfl)) d_MO_follow_45 ⟨Nat.le_of_ble_eq_true rfl, Nat.le_of_ble_eq_true rfl⟩) hS (fun q _ h => h) (fun q h => h) (fun r3 s4 t H locs ht0 hvm hq hB hz1 hk1 hS => ?_)
          obtain ⟨hP, -, -⟩ := hB
          rw [ht0] at hP
          refine lv_if_ne (tgt := 59) hx hb d_MO_follow_48 (by decide) (fun c5 => ?_) (fun c5 => ?_)
          · have hq := hq.2 c5
            refine lv_aload_n hx hb d_MO_follow_59 rfl (lv_at hl 2 rfl) ?_
            refine lv_iload_n hx hb d_MO_follow_60 rfl (lv_at hl 1 rfl) ?_
            refine lv_iload_n hx hb d_MO_follow_61 rfl (lv_at hl 0 rfl) ?_
            refine va_calli (va_runV (As := [.int (gA σ 17 p1.toNatClampNeg), .int (gA σ 1 ((gA σ 16 p1.toNatClampNeg).toNatClampNeg))]) (rest := []) ⟨hx, hb, hml, hown, hts⟩ (c_MO_isName (D := D) (cs := cs) hi hq) (cwV 2 hts (good_V wC_876 wC_878 wC_32 wC_50 wC_879) rfl rfl rfl (by decide +kernel) ⟨(show 0 + 1 ≤ 2 by omega), (show 8 + (3 + 11) + 0 ≤ 41 by omega)⟩) ⟨mP_blind, va_recv hK hP (ci := 5) (q0 := 0) rfl (wd_at (by decide) rfl), fun U hU hW => ⟨rfl, by rw [hU]; exact hP, va_K.moved hW.alike hK, hN.warm hW⟩⟩ rfl rfl hl.1 rfl (lv_room (Nat.le_of_ble_eq_true rfl)) d_MO_follow_62 ⟨Nat.le_of_ble_eq_true rfl, Nat.le_of_ble_eq_true rfl⟩) hS (fun q _ h => h) (fun q h => h) (fun r6 s7 t H locs ht0 hvm hq hB hz1 hk1 hS => ?_)
            obtain ⟨hP, -, -⟩ := hB
            rw [ht0] at hP
            refine lv_if_ne (tgt := 69) hx hb d_MO_follow_65 (by decide) (fun c8 => ?_) (fun c8 => ?_)
            · have hq := hq.2 c8
              refine lv_aload_n hx hb d_MO_follow_69 rfl (lv_at hl 2 rfl) ?_
              refine cw_get (C := R_MO) (T := F_MO) (N := 39) (v := .ref (am 10)) hx hb hts (in_MO _) hown hK hP 0 (by decide) rfl rfl 15 (by decide) (ht _ wC_697) rfl d_MO_follow_70 ?_
              refine lv_iconst (v := 2) hx hb d_MO_follow_73 (by decide) ?_
              refine lv_iload_n hx hb d_MO_follow_74 rfl (lv_at hl 1 rfl) ?_
              refine lv_imul hx hb d_MO_follow_75 ?_
              refine lv_iload_n hx hb d_MO_follow_76 rfl (lv_at hl 0 rfl) ?_
              refine lv_iadd hx hb d_MO_follow_77 ?_
              refine cw_iald hx hb hK hP 10 (by decide) rfl 0 rfl hq.1 d_MO_follow_78 ?_
              have hq := hq.2
              refine lv_if_ge (tgt := 90) hx hb d_MO_follow_79 (by decide) (fun c9 => ?_) (fun c9 => ?_)
              · have hq := hq.1 c9
                refine lv_aload_n hx hb d_MO_follow_90 rfl (lv_at hl 2 rfl) ?_
                refine cw_get (C := R_MO) (T := F_MO) (N := 39) (v := .ref (am 1)) hx hb hts (in_MO _) hown hK hP 0 (by decide) rfl rfl 0 (by decide) (ht _ wC_682) rfl d_MO_follow_91 ?_
                refine lv_aload_n hx hb d_MO_follow_94 rfl (lv_at hl 2 rfl) ?_
                refine cw_get (C := R_MO) (T := F_MO) (N := 39) (v := .ref (am 10)) hx hb hts (in_MO _) hown hK hP 0 (by decide) rfl rfl 15 (by decide) (ht _ wC_697) rfl d_MO_follow_95 ?_
                refine lv_iconst (v := 2) hx hb d_MO_follow_98 (by decide) ?_
                refine lv_iload_n hx hb d_MO_follow_99 rfl (lv_at hl 1 rfl) ?_
                refine lv_imul hx hb d_MO_follow_100 ?_
                refine lv_iload_n hx hb d_MO_follow_101 rfl (lv_at hl 0 rfl) ?_
                refine lv_iadd hx hb d_MO_follow_102 ?_
                refine cw_iald hx hb hK hP 10 (by decide) rfl 0 rfl hq.1 d_MO_follow_103 ?_
                have hq := hq.2
                refine cw_iald hx hb hK hP 1 (by decide) rfl 0 rfl hq.1 d_MO_follow_104 ?_
                have hq := hq.2
                refine va_calli (va_runS (As := [.int (gA s7 0 ((gA s7 7 (((2 * (gA σ 17 p1.toNatClampNeg)) + (gA σ 1 ((gA σ 16 p1.toNatClampNeg).toNatClampNeg))).toNatClampNeg)).toNatClampNeg))]) (rest := []) ⟨hx, hb, hml, hown, hts⟩ (c_MO_isGoal (D := D) (cs := cs) hi hq) (va_cwS 1 hts (good_S wC_892 wC_893 wC_50 wC_894) rfl rfl rfl (by decide +kernel) ⟨(show 0 + 1 ≤ 2 by omega), (show 8 + (1 + 11) + 0 ≤ 41 by omega)⟩) ⟨mP_blind, fun U hU hW => ⟨rfl, by rw [hU]; exact hP, va_K.moved hW.alike hK, hN.warm hW⟩⟩ rfl rfl hl.1 rfl (lv_room (Nat.le_of_ble_eq_true rfl)) d_MO_follow_105 ⟨Nat.le_of_ble_eq_true rfl, Nat.le_of_ble_eq_true rfl⟩) hS (fun q _ h => h) (fun q h => h) (fun r10 s11 t H locs ht0 hvm hq hB hz1 hk1 hS => ?_)
                obtain ⟨hP, -, -⟩ := hB
                rw [ht0] at hP
                refine lv_if_ne (tgt := 120) hx hb d_MO_follow_108 (by decide) (fun c12 => ?_) (fun c12 => ?_)
                · have hq := hq.2 c12
                  refine lv_aload_n hx hb d_MO_follow_120 rfl (lv_at hl 2 rfl) ?_
                  refine va_callv (va_runV (As := []) (rest := []) ⟨hx, hb, hml, hown, hts⟩ (c_MO_deeper (D := D) (cs := cs) hi hq) (cwV 0 hts (good_V wC_880 wC_882 wC_33 wC_50 wC_883) rfl rfl rfl (by decide +kernel) ⟨(show 1 + 1 ≤ 2 by omega), (show 8 + (1 + 11) + 21 ≤ 41 by omega)⟩) ⟨mP_blind, va_recv hK hP (ci := 5) (q0 := 0) rfl (wd_at (by decide) rfl), fun U hU hW => ⟨rfl, by rw [hU]; exact hP, va_K.moved hW.alike hK, hN.warm hW⟩⟩ rfl rfl hl.1 rfl (lv_room (Nat.le_of_ble_eq_true rfl)) d_MO_follow_121 ⟨Nat.le_of_ble_eq_true rfl, Nat.le_of_ble_eq_true rfl⟩) hS (fun q _ h => h) (fun q h => h) (fun s14 t H locs ht0 hvm hq hB hz1 hk1 hS => ?_)
                  obtain ⟨hP, -, -⟩ := hB
                  rw [ht0] at hP
                  refine lv_aload_n hx hb d_MO_follow_124 rfl (lv_at hl 2 rfl) ?_
                  refine cw_get (C := R_MO) (T := F_MO) (N := 39) (v := .ref (am 21)) hx hb hts (in_MO _) hown hK hP 0 (by decide) rfl rfl 28 (by decide) (ht _ wC_710) rfl d_MO_follow_125 ?_
                  refine lv_iload_n hx hb d_MO_follow_128 rfl (lv_at hl 3 rfl) ?_
                  refine lv_aload_n hx hb d_MO_follow_129 rfl (lv_at hl 2 rfl) ?_
                  refine cw_get (C := R_MO) (T := F_MO) (N := 39) (v := .ref (am 10)) hx hb hts (in_MO _) hown hK hP 0 (by decide) rfl rfl 15 (by decide) (ht _ wC_697) rfl d_MO_follow_130 ?_
                  refine lv_iconst (v := 2) hx hb d_MO_follow_133 (by decide) ?_
                  refine lv_iload_n hx hb d_MO_follow_134 rfl (lv_at hl 1 rfl) ?_
                  refine lv_imul hx hb d_MO_follow_135 ?_
                  refine lv_iload_n hx hb d_MO_follow_136 rfl (lv_at hl 0 rfl) ?_
                  refine lv_iadd hx hb d_MO_follow_137 ?_
                  refine cw_iald hx hb hK hP 10 (by decide) rfl 0 rfl hq.1 d_MO_follow_138 ?_
                  have hq := hq.2
                  refine cw_iast hx hb hK hP hi hS 21 (by decide) rfl 0 rfl hq.1 mpa_16 d_MO_follow_139 (fun H locs hP hS => ?_)
                  have hq := hq.2
                  obtain ⟨s15, e_s15⟩ : ∃ z, z = sA s14 16 (upd (gA s14 16) p1.toNatClampNeg (gA s14 7 (((2 * (gA σ 17 p1.toNatClampNeg)) + (gA σ 1 ((gA σ 16 p1.toNatClampNeg).toNatClampNeg))).toNatClampNeg))) := ⟨_, rfl⟩
                  rw [← e_s15] at hP
                  have hq := hq s15 e_s15
                  refine lv_aload_n hx hb d_MO_follow_140 rfl (lv_at hl 2 rfl) ?_
                  refine cw_get (C := R_MO) (T := F_MO) (N := 39) (v := .ref (am 22)) hx hb hts (in_MO _) hown hK hP 0 (by decide) rfl rfl 29 (by decide) (ht _ wC_711) rfl d_MO_follow_141 ?_
                  refine lv_iload_n hx hb d_MO_follow_144 rfl (lv_at hl 3 rfl) ?_
                  refine lv_aload_n hx hb d_MO_follow_145 rfl (lv_at hl 2 rfl) ?_
                  refine cw_get (C := R_MO) (T := F_MO) (N := 39) (v := .ref (am 11)) hx hb hts (in_MO _) hown hK hP 0 (by decide) rfl rfl 16 (by decide) (ht _ wC_698) rfl d_MO_follow_146 ?_
                  refine lv_iconst (v := 2) hx hb d_MO_follow_149 (by decide) ?_
                  refine lv_iload_n hx hb d_MO_follow_150 rfl (lv_at hl 1 rfl) ?_
                  refine lv_imul hx hb d_MO_follow_151 ?_
                  refine lv_iload_n hx hb d_MO_follow_152 rfl (lv_at hl 0 rfl) ?_
                  refine lv_iadd hx hb d_MO_follow_153 ?_
                  refine cw_iald hx hb hK hP 11 (by decide) rfl 0 rfl hq.1 d_MO_follow_154 ?_
                  have hq := hq.2
                  refine cw_iast hx hb hK hP hi hS 22 (by decide) rfl 0 rfl hq.1 mpa_17 d_MO_follow_155 (fun H locs hP hS => ?_)
                  have hq := hq.2
                  obtain ⟨s16, e_s16⟩ : ∃ z, z = sA s15 17 (upd (gA s15 17) p1.toNatClampNeg (gA s15 8 (((2 * (gA σ 17 p1.toNatClampNeg)) + (gA σ 1 ((gA σ 16 p1.toNatClampNeg).toNatClampNeg))).toNatClampNeg))) := ⟨_, rfl⟩
                  rw [← e_s16] at hP
                  have hq := hq s16 e_s16
                  refine lv_goto (tgt := 0) hx hb d_MO_follow_156 (by decide) ?_
                  exact ih  s16 _ _ ls hq hP hS (lv_sub hl [2, 3] rfl)
                · have hq := hq.1 c12
                  refine lv_aload_n hx hb d_MO_follow_111 rfl (lv_at hl 2 rfl) ?_
                  refine lv_bipush (v := 6) hx hb d_MO_follow_112 (by decide) ?_
                  refine va_callv (va_runV (As := [.int 6]) (rest := []) ⟨hx, hb, hml, hown, hts⟩ (c_MO_wrong (D := D) (cs := cs) hi hq) (cwV 1 hts (good_V wC_855 wC_857 wC_27 wC_50 wC_858) rfl rfl rfl (by decide +kernel) ⟨(show 0 + 1 ≤ 2 by omega), (show 8 + (2 + 11) + 0 ≤ 41 by omega)⟩) ⟨mP_blind, va_recv hK hP (ci := 5) (q0 := 0) rfl (wd_at (by decide) rfl), fun U hU hW => ⟨rfl, by rw [hU]; exact hP, va_K.moved hW.alike hK, hN.warm hW⟩⟩ rfl rfl hl.1 rfl (lv_room (Nat.le_of_ble_eq_true rfl)) d_MO_follow_114 ⟨Nat.le_of_ble_eq_true rfl, Nat.le_of_ble_eq_true rfl⟩) hS (fun q _ h => h) (fun q h => h) (fun s18 t H locs ht0 hvm hq hB hz1 hk1 hS => ?_)
                  obtain ⟨hP, -, -⟩ := hB
                  rw [ht0] at hP
                  refine lv_goto (tgt := 156) hx hb d_MO_follow_117 (by decide) ?_
                  refine lv_goto (tgt := 0) hx hb d_MO_follow_156 (by decide) ?_
                  exact ih  s18 _ _ ls hq hP hS (lv_sub hl [2, 3] rfl)
              · have hq := hq.2 c9
                refine lv_aload_n hx hb d_MO_follow_82 rfl (lv_at hl 2 rfl) ?_
                refine lv_iconst (v := 4) hx hb d_MO_follow_83 (by decide) ?_
                refine va_callv (va_runV (As := [.int 4]) (rest := []) ⟨hx, hb, hml, hown, hts⟩ (c_MO_wrong (D := D) (cs := cs) hi hq) (cwV 1 hts (good_V wC_855 wC_857 wC_27 wC_50 wC_858) rfl rfl rfl (by decide +kernel) ⟨(show 0 + 1 ≤ 2 by omega), (show 8 + (2 + 11) + 0 ≤ 41 by omega)⟩) ⟨mP_blind, va_recv hK hP (ci := 5) (q0 := 0) rfl (wd_at (by decide) rfl), fun U hU hW => ⟨rfl, by rw [hU]; exact hP, va_K.moved hW.alike hK, hN.warm hW⟩⟩ rfl rfl hl.1 rfl (lv_room (Nat.le_of_ble_eq_true rfl)) d_MO_follow_84 ⟨Nat.le_of_ble_eq_true rfl, Nat.le_of_ble_eq_true rfl⟩) hS (fun q _ h => h) (fun q h => h) (fun s20 t H locs ht0 hvm hq hB hz1 hk1 hS => ?_)
                obtain ⟨hP, -, -⟩ := hB
                rw [ht0] at hP
                refine lv_goto (tgt := 156) hx hb d_MO_follow_87 (by decide) ?_
                refine lv_goto (tgt := 0) hx hb d_MO_follow_156 (by decide) ?_
                exact ih  s20 _ _ ls hq hP hS (lv_sub hl [2, 3] rfl)
            · have hq := hq.1 c8
              exact W.vret hx hb hr (fun t ht hW => ⟨⟨s7, rfl, hq, by rw [ht]; exact hP, va_K.moved hW.alike hK, hN.warm hW⟩, hS.F ht⟩) hS.2.2 d_MO_follow_68
          · have hq := hq.1 c5
            refine lv_aload_n hx hb d_MO_follow_51 rfl (lv_at hl 2 rfl) ?_
            refine lv_iconst (v := 4) hx hb d_MO_follow_52 (by decide) ?_
            refine va_callv (va_runV (As := [.int 4]) (rest := []) ⟨hx, hb, hml, hown, hts⟩ (c_MO_wrong (D := D) (cs := cs) hi hq) (cwV 1 hts (good_V wC_855 wC_857 wC_27 wC_50 wC_858) rfl rfl rfl (by decide +kernel) ⟨(show 0 + 1 ≤ 2 by omega), (show 8 + (2 + 11) + 0 ≤ 41 by omega)⟩) ⟨mP_blind, va_recv hK hP (ci := 5) (q0 := 0) rfl (wd_at (by decide) rfl), fun U hU hW => ⟨rfl, by rw [hU]; exact hP, va_K.moved hW.alike hK, hN.warm hW⟩⟩ rfl rfl hl.1 rfl (lv_room (Nat.le_of_ble_eq_true rfl)) d_MO_follow_53 ⟨Nat.le_of_ble_eq_true rfl, Nat.le_of_ble_eq_true rfl⟩) hS (fun q _ h => h) (fun q h => h) (fun s22 t H locs ht0 hvm hq hB hz1 hk1 hS => ?_)
            obtain ⟨hP, -, -⟩ := hB
            rw [ht0] at hP
            refine lv_goto (tgt := 156) hx hb d_MO_follow_56 (by decide) ?_
            refine lv_goto (tgt := 0) hx hb d_MO_follow_156 (by decide) ?_
            exact ih  s22 _ _ ls hq hP hS (lv_sub hl [2, 3] rfl)
  obtain ⟨fu, hq⟩ := hq
  exact loop_0 fu  σ _ _ ls hq hP hS (lv_sub hl [0, 1] rfl)
def wp_MO_become (p1 : Int32) (σ : CS) (Q : CS → Prop) : Prop := (vp_in p1 310 ∧ (vp_in p1 310 ∧ (vp_in (gA σ 16 p1.toNatClampNeg) 48 ∧ (vp_in p1 310 ∧ (vp_in (gA σ 16 p1.toNatClampNeg) 48 ∧ (((gA σ 0 ((gA σ 16 p1.toNatClampNeg).toNatClampNeg)) = 1 → ((4 ≤ (gA σ 1 ((gA σ 16 p1.toNatClampNeg).toNatClampNeg)) → (wp_MO_isGood (gD σ 4 p1.toNatClampNeg) σ (fun r26 s27 => ((r26 = 0 → (wp_MO_wrong 2 s27 (fun s34 => (((gI s34 10) = 0 → (wp_MO_end (gD σ 4 p1.toNatClampNeg) s34 (fun s37 => Q s37))) ∧ (¬ (gI s34 10) = 0 → Q s34))))) ∧ (¬ r26 = 0 → (vp_in (gA σ 1 ((gA σ 16 p1.toNatClampNeg).toNatClampNeg)) 8 ∧ (∀ s29 : CS, s29 = sD s27 0 (vf_upd (gD s27 0) ((gA σ 1 ((gA σ 16 p1.toNatClampNeg).toNatClampNeg)).toNatClampNeg) (gD σ 4 p1.toNatClampNeg)) → (((gI s29 10) = 0 → (wp_MO_end (gD σ 4 p1.toNatClampNeg) s29 (fun s32 => Q s32))) ∧ (¬ (gI s29 10) = 0 → Q s29))))))))) ∧ (¬ 4 ≤ (gA σ 1 ((gA σ 16 p1.toNatClampNeg).toNatClampNeg)) → (wp_MO_round (gD σ 4 p1.toNatClampNeg) σ (fun r38 s39 => (wp_MO_isGood r38 s39 (fun r40 s41 => ((r40 = 0 → (wp_MO_wrong 2 s41 (fun s48 => (((gI s48 10) = 0 → (wp_MO_end r38 s48 (fun s51 => Q s51))) ∧ (¬ (gI s48 10) = 0 → Q s48))))) ∧ (¬ r40 = 0 → (vp_in (gA σ 1 ((gA σ 16 p1.toNatClampNeg).toNatClampNeg)) 8 ∧ (∀ s43 : CS, s43 = sD s41 0 (vf_upd (gD s41 0) ((gA σ 1 ((gA σ 16 p1.toNatClampNeg).toNatClampNeg)).toNatClampNeg) r38) → (((gI s43 10) = 0 → (wp_MO_end r38 s43 (fun s46 => Q s46))) ∧ (¬ (gI s43 10) = 0 → Q s43))))))))))))) ∧ (¬ (gA σ 0 ((gA σ 16 p1.toNatClampNeg).toNatClampNeg)) = 1 → (wp_MO_isGood (gD σ 4 p1.toNatClampNeg) σ (fun r2 s3 => ((r2 = 0 → (wp_MO_wrong 2 s3 (fun s21 => (((gI s21 10) = 0 → (wp_MO_end (gD σ 4 p1.toNatClampNeg) s21 (fun s24 => Q s24))) ∧ (¬ (gI s21 10) = 0 → Q s21))))) ∧ (¬ r2 = 0 → (vp_in (gA σ 16 p1.toNatClampNeg) 48 ∧ (((gA s3 0 ((gA σ 16 p1.toNatClampNeg).toNatClampNeg)) = 10 → (vp_in ((2 * (gA σ 17 p1.toNatClampNeg)) + (gA σ 1 ((gA σ 16 p1.toNatClampNeg).toNatClampNeg))) 20 ∧ (∀ s16 : CS, s16 = sD s3 2 (vf_upd (gD s3 2) (((2 * (gA σ 17 p1.toNatClampNeg)) + (gA σ 1 ((gA σ 16 p1.toNatClampNeg).toNatClampNeg))).toNatClampNeg) (gD σ 4 p1.toNatClampNeg)) → (((gI s16 10) = 0 → (wp_MO_end (gD σ 4 p1.toNatClampNeg) s16 (fun s19 => Q s19))) ∧ (¬ (gI s16 10) = 0 → Q s16))))) ∧ (¬ (gA s3 0 ((gA σ 16 p1.toNatClampNeg).toNatClampNeg)) = 10 → (((gA σ 17 p1.toNatClampNeg) = 0 → (wp_MO_wrong 4 s3 (fun s12 => (((gI s12 10) = 0 → (wp_MO_end (gD σ 4 p1.toNatClampNeg) s12 (fun s15 => Q s15))) ∧ (¬ (gI s12 10) = 0 → Q s12))))) ∧ (¬ (gA σ 17 p1.toNatClampNeg) = 0 → (vp_in ((2 * (gA σ 17 p1.toNatClampNeg)) + (gA σ 1 ((gA σ 16 p1.toNatClampNeg).toNatClampNeg))) 20 ∧ (∀ s7 : CS, s7 = sD s3 3 (vf_upd (gD s3 3) (((2 * (gA σ 17 p1.toNatClampNeg)) + (gA σ 1 ((gA σ 16 p1.toNatClampNeg).toNatClampNeg))).toNatClampNeg) (gD σ 4 p1.toNatClampNeg)) → (((gI s7 10) = 0 → (wp_MO_end (gD σ 4 p1.toNatClampNeg) s7 (fun s10 => Q s10))) ∧ (¬ (gI s7 10) = 0 → Q s7))))))))))))))))))))
set_option maxHeartbeats 4000000 in
set_option maxRecDepth 100000 in
theorem c_MO_become {l : Launch} {D : va_G} {cs : CI} {am : Nat → Nat} (hi : aI am 25) {p1 : Int32} {σ : CS} {Q : CS → Prop} (hq : wp_MO_become p1 σ Q) : Met l y_MO_become (.code y_MO_become b_MO_become 7 none :: wC) ({ frames := 1, cells := 0, slots := 0, locals := 25 }) (va_Pc [.ref (am 0), .int p1] (mP D cs am σ)) (va_Qv Q (mP D cs am) (aK am 25)) 0 0 (aK am 25) := by
  refine Met.ofW (cc := b_MO_become) (maxL := 7) (ret := none) (by decide) rfl ?_
  intro p e s m args below meth c s₁ B hml hv
  obtain ⟨rfl, hP, hK, hN⟩ := hv
  have hx := B.exec
  have hb := B.bytes
  have hr := B.returns
  have hts := atoms_spec (ws := .code y_MO_become b_MO_become 7 none :: wC) B.pre
  have ht : ∀ w ∈ wC, w.before _ s = true := fun w h => hts w (List.mem_cons_of_mem _ h)
  have hown : s.vm.findClass R_MO = some m.cls := findClass_of_methodNamed B.named
  have hlocks := B.notSynchronized
  have hS : va_S (aK am 25) s.heap s.heap [] := va_S.rf
  have hl := lv_entry ([.ref (am 0), .int p1]) (n := 7) (Nat.le_of_ble_eq_true rfl)
  rw [lg_entry_eq]
  generalize (lg_sl ([.ref (am 0), .int p1]) ++ List.replicate (7 - (lg_sl ([.ref (am 0), .int p1])).length) Slot.unset).toArray = ls at hl ⊢
  have hl : lv_has ls 7 [(0, .ref (am 0)), (1, .int p1)] := hl
  unfold wp_MO_become at hq
  have hh8 : 8 < 9 := by decide
  refine lv_aload_n hx hb d_MO_become_0 rfl (lv_at hl 0 rfl) ?_
  refine cw_get (C := R_MO) (T := F_MO) (N := 39) (v := .ref (am 21)) hx hb hts (in_MO _) hown hK hP 0 (by decide) rfl rfl 28 (by decide) (ht _ wC_710) rfl d_MO_become_1 ?_
  refine lv_iload_n hx hb d_MO_become_4 rfl (lv_at hl 1 rfl) ?_
  refine cw_iald hx hb hK hP 21 (by decide) rfl 0 rfl hq.1 d_MO_become_5 ?_
  have hq := hq.2
  refine lv_istore_n (lv' := [(2, .int (gA σ 16 p1.toNatClampNeg)), (0, .ref (am 0)), (1, .int p1)]) hx hb d_MO_become_6 rfl hl (by decide) rfl (fun ls hl => ?_)
  refine lv_aload_n hx hb d_MO_become_7 rfl (lv_at hl 1 rfl) ?_
  refine cw_get (C := R_MO) (T := F_MO) (N := 39) (v := .ref (am 22)) hx hb hts (in_MO _) hown hK hP 0 (by decide) rfl rfl 29 (by decide) (ht _ wC_711) rfl d_MO_become_8 ?_
  refine lv_iload_n hx hb d_MO_become_11 rfl (lv_at hl 2 rfl) ?_
  refine cw_iald hx hb hK hP 22 (by decide) rfl 0 rfl hq.1 d_MO_become_12 ?_
  have hq := hq.2
  refine lv_istore_n (lv' := [(3, .int (gA σ 17 p1.toNatClampNeg)), (2, .int (gA σ 16 p1.toNatClampNeg)), (0, .ref (am 0)), (1, .int p1)]) hx hb d_MO_become_13 rfl hl (by decide) rfl (fun ls hl => ?_)
  refine lv_aload_n hx hb d_MO_become_14 rfl (lv_at hl 2 rfl) ?_
  refine cw_get (C := R_MO) (T := F_MO) (N := 39) (v := .ref (am 2)) hx hb hts (in_MO _) hown hK hP 0 (by decide) rfl rfl 1 (by decide) (ht _ wC_683) rfl d_MO_become_15 ?_
  refine lv_iload_n hx hb d_MO_become_18 rfl (lv_at hl 1 rfl) ?_
  refine cw_iald hx hb hK hP 2 (by decide) rfl 0 rfl hq.1 d_MO_become_19 ?_
  have hq := hq.2
  refine lv_istore (lv' := [(4, .int (gA σ 1 ((gA σ 16 p1.toNatClampNeg).toNatClampNeg))), (3, .int (gA σ 17 p1.toNatClampNeg)), (2, .int (gA σ 16 p1.toNatClampNeg)), (0, .ref (am 0)), (1, .int p1)]) hx hb d_MO_become_20 hl (by decide) rfl (fun ls hl => ?_)
  refine lv_aload_n hx hb d_MO_become_22 rfl (lv_at hl 3 rfl) ?_
  refine cw_get (C := R_MO) (T := F_MO) (N := 39) (v := .ref (am 23)) hx hb hts (in_MO _) hown hK hP 0 (by decide) rfl rfl 30 (by decide) (ht _ wC_712) rfl d_MO_become_23 ?_
  refine lv_iload_n hx hb d_MO_become_26 rfl (lv_at hl 4 rfl) ?_
  refine cw_dald hx hb hK hP 23 (by decide) rfl 1 rfl hq.1 d_MO_become_27 ?_
  have hq := hq.2
  refine lv_dstore (lv' := [(5, .double (gD σ 4 p1.toNatClampNeg)), (4, .int (gA σ 1 ((gA σ 16 p1.toNatClampNeg).toNatClampNeg))), (3, .int (gA σ 17 p1.toNatClampNeg)), (2, .int (gA σ 16 p1.toNatClampNeg)), (0, .ref (am 0)), (1, .int p1)]) hx hb d_MO_become_28 hl (by decide) rfl (fun ls hl => ?_)
  refine lv_aload_n hx hb d_MO_become_30 rfl (lv_at hl 4 rfl) ?_
  refine cw_get (C := R_MO) (T := F_MO) (N := 39) (v := .ref (am 1)) hx hb hts (in_MO _) hown hK hP 0 (by decide) rfl rfl 0 (by decide) (ht _ wC_682) rfl d_MO_become_31 ?_
  refine lv_iload_n hx hb d_MO_become_34 rfl (lv_at hl 3 rfl) ?_
  refine cw_iald hx hb hK hP 1 (by decide) rfl 0 rfl hq.1 d_MO_become_35 ?_
  have hq := hq.2
  refine lv_iconst (v := 1) hx hb d_MO_become_36 (by decide) ?_
  refine lv_icmp_ne (tgt := 86) hx hb d_MO_become_37 (by decide) (fun c1 => ?_) (fun c1 => ?_)
  · have hq := hq.2 c1
    refine lv_dload hx hb d_MO_become_86 (lv_at hl 0 rfl) ?_
    refine va_calli (va_runS (As := [.double (gD σ 4 p1.toNatClampNeg)]) (rest := []) ⟨hx, hb, hml, hown, hts⟩ (c_MO_isGood (D := D) (cs := cs) hi hq) (va_cwS 1 hts (good_S wC_838 wC_839 wC_50 wC_840) rfl rfl rfl (by decide +kernel) ⟨(show 0 + 1 ≤ 1 by omega), (show 8 + (2 + 11) + 0 ≤ 25 by omega)⟩) ⟨mP_blind, fun U hU hW => ⟨rfl, by rw [hU]; exact hP, va_K.moved hW.alike hK, hN.warm hW⟩⟩ rfl rfl hl.1 rfl (lv_room (Nat.le_of_ble_eq_true rfl)) d_MO_become_88 ⟨Nat.le_of_ble_eq_true rfl, Nat.le_of_ble_eq_true rfl⟩) hS (fun q _ h => h) (fun q h => h) (fun r2 s3 t H locs ht0 hvm hq hB hz1 hk1 hS => ?_)
    obtain ⟨hP, -, -⟩ := hB
    rw [ht0] at hP
    refine lv_if_ne (tgt := 102) hx hb d_MO_become_91 (by decide) (fun c4 => ?_) (fun c4 => ?_)
    · have hq := hq.2 c4
      refine lv_aload_n hx hb d_MO_become_102 rfl (lv_at hl 4 rfl) ?_
      refine cw_get (C := R_MO) (T := F_MO) (N := 39) (v := .ref (am 1)) hx hb hts (in_MO _) hown hK hP 0 (by decide) rfl rfl 0 (by decide) (ht _ wC_682) rfl d_MO_become_103 ?_
      refine lv_iload_n hx hb d_MO_become_106 rfl (lv_at hl 3 rfl) ?_
      refine cw_iald hx hb hK hP 1 (by decide) rfl 0 rfl hq.1 d_MO_become_107 ?_
      have hq := hq.2
      refine lv_bipush (v := 10) hx hb d_MO_become_108 (by decide) ?_
      refine lv_icmp_ne (tgt := 129) hx hb d_MO_become_110 (by decide) (fun c5 => ?_) (fun c5 => ?_)
      · have hq := hq.2 c5
        refine lv_iload_n hx hb d_MO_become_129 rfl (lv_at hl 2 rfl) ?_
        refine lv_if_ne (tgt := 141) hx hb d_MO_become_130 (by decide) (fun c6 => ?_) (fun c6 => ?_)
        · have hq := hq.2 c6
          refine lv_aload_n hx hb d_MO_become_141 rfl (lv_at hl 4 rfl) ?_
          refine cw_get (C := R_MO) (T := F_MO) (N := 39) (v := .ref (am 15)) hx hb hts (in_MO _) hown hK hP 0 (by decide) rfl rfl 20 (by decide) (ht _ wC_702) rfl d_MO_become_142 ?_
          refine lv_iconst (v := 2) hx hb d_MO_become_145 (by decide) ?_
          refine lv_iload_n hx hb d_MO_become_146 rfl (lv_at hl 2 rfl) ?_
          refine lv_imul hx hb d_MO_become_147 ?_
          refine lv_iload hx hb d_MO_become_148 (lv_at hl 1 rfl) ?_
          refine lv_iadd hx hb d_MO_become_150 ?_
          refine lv_dload hx hb d_MO_become_151 (lv_at hl 0 rfl) ?_
          refine cw_dast hx hb hK hP hi hS 15 (by decide) rfl 1 rfl hq.1 mpd_3 d_MO_become_153 (fun H locs hP hS => ?_)
          have hq := hq.2
          obtain ⟨s7, e_s7⟩ : ∃ z, z = sD s3 3 (vf_upd (gD s3 3) (((2 * (gA σ 17 p1.toNatClampNeg)) + (gA σ 1 ((gA σ 16 p1.toNatClampNeg).toNatClampNeg))).toNatClampNeg) (gD σ 4 p1.toNatClampNeg)) := ⟨_, rfl⟩
          rw [← e_s7] at hP
          have hq := hq s7 e_s7
          refine lv_aload_n hx hb d_MO_become_154 rfl (lv_at hl 4 rfl) ?_
          refine cw_get (C := R_MO) (T := F_MO) (N := 39) (v := .int (gI s7 10)) hx hb hts (in_MO _) hown hK hP 0 (by decide) rfl rfl 34 (by decide) (ht _ wC_716) rfl d_MO_become_155 ?_
          refine lv_if_ne (tgt := 167) hx hb d_MO_become_158 (by decide) (fun c8 => ?_) (fun c8 => ?_)
          · have hq := hq.2 c8
            exact W.vret hx hb hr (fun t ht hW => ⟨⟨s7, rfl, hq, by rw [ht]; exact hP, va_K.moved hW.alike hK, hN.warm hW⟩, hS.F ht⟩) hS.2.2 d_MO_become_167
          · have hq := hq.1 c8
            refine lv_aload_n hx hb d_MO_become_161 rfl (lv_at hl 4 rfl) ?_
            refine lv_dload hx hb d_MO_become_162 (lv_at hl 0 rfl) ?_
            refine va_callv (va_runV (As := [.double (gD σ 4 p1.toNatClampNeg)]) (rest := []) ⟨hx, hb, hml, hown, hts⟩ (c_MO_end (D := D) (cs := cs) hi hq) (cwV 1 hts (good_V wC_864 wC_866 wC_29 wC_50 wC_867) rfl rfl rfl (by decide +kernel) ⟨(show 0 + 1 ≤ 1 by omega), (show 8 + (3 + 11) + 0 ≤ 25 by omega)⟩) ⟨mP_blind, va_recv hK hP (ci := 5) (q0 := 0) rfl (wd_at (by decide) rfl), fun U hU hW => ⟨rfl, by rw [hU]; exact hP, va_K.moved hW.alike hK, hN.warm hW⟩⟩ rfl rfl hl.1 rfl (lv_room (Nat.le_of_ble_eq_true rfl)) d_MO_become_164 ⟨Nat.le_of_ble_eq_true rfl, Nat.le_of_ble_eq_true rfl⟩) hS (fun q _ h => h) (fun q h => h) (fun s10 t H locs ht0 hvm hq hB hz1 hk1 hS => ?_)
            obtain ⟨hP, -, -⟩ := hB
            rw [ht0] at hP
            exact W.vret hx hb hr (fun t ht hW => ⟨⟨s10, rfl, hq, by rw [ht]; exact hP, va_K.moved hW.alike hK, hN.warm hW⟩, hS.F ht⟩) hS.2.2 d_MO_become_167
        · have hq := hq.1 c6
          refine lv_aload_n hx hb d_MO_become_133 rfl (lv_at hl 4 rfl) ?_
          refine lv_iconst (v := 4) hx hb d_MO_become_134 (by decide) ?_
          refine va_callv (va_runV (As := [.int 4]) (rest := []) ⟨hx, hb, hml, hown, hts⟩ (c_MO_wrong (D := D) (cs := cs) hi hq) (cwV 1 hts (good_V wC_855 wC_857 wC_27 wC_50 wC_858) rfl rfl rfl (by decide +kernel) ⟨(show 0 + 1 ≤ 1 by omega), (show 8 + (2 + 11) + 0 ≤ 25 by omega)⟩) ⟨mP_blind, va_recv hK hP (ci := 5) (q0 := 0) rfl (wd_at (by decide) rfl), fun U hU hW => ⟨rfl, by rw [hU]; exact hP, va_K.moved hW.alike hK, hN.warm hW⟩⟩ rfl rfl hl.1 rfl (lv_room (Nat.le_of_ble_eq_true rfl)) d_MO_become_135 ⟨Nat.le_of_ble_eq_true rfl, Nat.le_of_ble_eq_true rfl⟩) hS (fun q _ h => h) (fun q h => h) (fun s12 t H locs ht0 hvm hq hB hz1 hk1 hS => ?_)
          obtain ⟨hP, -, -⟩ := hB
          rw [ht0] at hP
          refine lv_goto (tgt := 154) hx hb d_MO_become_138 (by decide) ?_
          refine lv_aload_n hx hb d_MO_become_154 rfl (lv_at hl 4 rfl) ?_
          refine cw_get (C := R_MO) (T := F_MO) (N := 39) (v := .int (gI s12 10)) hx hb hts (in_MO _) hown hK hP 0 (by decide) rfl rfl 34 (by decide) (ht _ wC_716) rfl d_MO_become_155 ?_
          refine lv_if_ne (tgt := 167) hx hb d_MO_become_158 (by decide) (fun c13 => ?_) (fun c13 => ?_)
          · have hq := hq.2 c13
            exact W.vret hx hb hr (fun t ht hW => ⟨⟨s12, rfl, hq, by rw [ht]; exact hP, va_K.moved hW.alike hK, hN.warm hW⟩, hS.F ht⟩) hS.2.2 d_MO_become_167
          · have hq := hq.1 c13
            refine lv_aload_n hx hb d_MO_become_161 rfl (lv_at hl 4 rfl) ?_
            refine lv_dload hx hb d_MO_become_162 (lv_at hl 0 rfl) ?_
            refine va_callv (va_runV (As := [.double (gD σ 4 p1.toNatClampNeg)]) (rest := []) ⟨hx, hb, hml, hown, hts⟩ (c_MO_end (D := D) (cs := cs) hi hq) (cwV 1 hts (good_V wC_864 wC_866 wC_29 wC_50 wC_867) rfl rfl rfl (by decide +kernel) ⟨(show 0 + 1 ≤ 1 by omega), (show 8 + (3 + 11) + 0 ≤ 25 by omega)⟩) ⟨mP_blind, va_recv hK hP (ci := 5) (q0 := 0) rfl (wd_at (by decide) rfl), fun U hU hW => ⟨rfl, by rw [hU]; exact hP, va_K.moved hW.alike hK, hN.warm hW⟩⟩ rfl rfl hl.1 rfl (lv_room (Nat.le_of_ble_eq_true rfl)) d_MO_become_164 ⟨Nat.le_of_ble_eq_true rfl, Nat.le_of_ble_eq_true rfl⟩) hS (fun q _ h => h) (fun q h => h) (fun s15 t H locs ht0 hvm hq hB hz1 hk1 hS => ?_)
            obtain ⟨hP, -, -⟩ := hB
            rw [ht0] at hP
            exact W.vret hx hb hr (fun t ht hW => ⟨⟨s15, rfl, hq, by rw [ht]; exact hP, va_K.moved hW.alike hK, hN.warm hW⟩, hS.F ht⟩) hS.2.2 d_MO_become_167
      · have hq := hq.1 c5
        refine lv_aload_n hx hb d_MO_become_113 rfl (lv_at hl 4 rfl) ?_
        refine cw_get (C := R_MO) (T := F_MO) (N := 39) (v := .ref (am 14)) hx hb hts (in_MO _) hown hK hP 0 (by decide) rfl rfl 19 (by decide) (ht _ wC_701) rfl d_MO_become_114 ?_
        refine lv_iconst (v := 2) hx hb d_MO_become_117 (by decide) ?_
        refine lv_iload_n hx hb d_MO_become_118 rfl (lv_at hl 2 rfl) ?_
        refine lv_imul hx hb d_MO_become_119 ?_
        refine lv_iload hx hb d_MO_become_120 (lv_at hl 1 rfl) ?_
        refine lv_iadd hx hb d_MO_become_122 ?_
        refine lv_dload hx hb d_MO_become_123 (lv_at hl 0 rfl) ?_
        refine cw_dast hx hb hK hP hi hS 14 (by decide) rfl 1 rfl hq.1 mpd_2 d_MO_become_125 (fun H locs hP hS => ?_)
        have hq := hq.2
        obtain ⟨s16, e_s16⟩ : ∃ z, z = sD s3 2 (vf_upd (gD s3 2) (((2 * (gA σ 17 p1.toNatClampNeg)) + (gA σ 1 ((gA σ 16 p1.toNatClampNeg).toNatClampNeg))).toNatClampNeg) (gD σ 4 p1.toNatClampNeg)) := ⟨_, rfl⟩
        rw [← e_s16] at hP
        have hq := hq s16 e_s16
        refine lv_goto (tgt := 154) hx hb d_MO_become_126 (by decide) ?_
        refine lv_aload_n hx hb d_MO_become_154 rfl (lv_at hl 4 rfl) ?_
        refine cw_get (C := R_MO) (T := F_MO) (N := 39) (v := .int (gI s16 10)) hx hb hts (in_MO _) hown hK hP 0 (by decide) rfl rfl 34 (by decide) (ht _ wC_716) rfl d_MO_become_155 ?_
        refine lv_if_ne (tgt := 167) hx hb d_MO_become_158 (by decide) (fun c17 => ?_) (fun c17 => ?_)
        · have hq := hq.2 c17
          exact W.vret hx hb hr (fun t ht hW => ⟨⟨s16, rfl, hq, by rw [ht]; exact hP, va_K.moved hW.alike hK, hN.warm hW⟩, hS.F ht⟩) hS.2.2 d_MO_become_167
        · have hq := hq.1 c17
          refine lv_aload_n hx hb d_MO_become_161 rfl (lv_at hl 4 rfl) ?_
          refine lv_dload hx hb d_MO_become_162 (lv_at hl 0 rfl) ?_
          refine va_callv (va_runV (As := [.double (gD σ 4 p1.toNatClampNeg)]) (rest := []) ⟨hx, hb, hml, hown, hts⟩ (c_MO_end (D := D) (cs := cs) hi hq) (cwV 1 hts (good_V wC_864 wC_866 wC_29 wC_50 wC_867) rfl rfl rfl (by decide +kernel) ⟨(show 0 + 1 ≤ 1 by omega), (show 8 + (3 + 11) + 0 ≤ 25 by omega)⟩) ⟨mP_blind, va_recv hK hP (ci := 5) (q0 := 0) rfl (wd_at (by decide) rfl), fun U hU hW => ⟨rfl, by rw [hU]; exact hP, va_K.moved hW.alike hK, hN.warm hW⟩⟩ rfl rfl hl.1 rfl (lv_room (Nat.le_of_ble_eq_true rfl)) d_MO_become_164 ⟨Nat.le_of_ble_eq_true rfl, Nat.le_of_ble_eq_true rfl⟩) hS (fun q _ h => h) (fun q h => h) (fun s19 t H locs ht0 hvm hq hB hz1 hk1 hS => ?_)
          obtain ⟨hP, -, -⟩ := hB
          rw [ht0] at hP
          exact W.vret hx hb hr (fun t ht hW => ⟨⟨s19, rfl, hq, by rw [ht]; exact hP, va_K.moved hW.alike hK, hN.warm hW⟩, hS.F ht⟩) hS.2.2 d_MO_become_167
    · have hq := hq.1 c4
      refine lv_aload_n hx hb d_MO_become_94 rfl (lv_at hl 4 rfl) ?_
      refine lv_iconst (v := 2) hx hb d_MO_become_95 (by decide) ?_
      refine va_callv (va_runV (As := [.int 2]) (rest := []) ⟨hx, hb, hml, hown, hts⟩ (c_MO_wrong (D := D) (cs := cs) hi hq) (cwV 1 hts (good_V wC_855 wC_857 wC_27 wC_50 wC_858) rfl rfl rfl (by decide +kernel) ⟨(show 0 + 1 ≤ 1 by omega), (show 8 + (2 + 11) + 0 ≤ 25 by omega)⟩) ⟨mP_blind, va_recv hK hP (ci := 5) (q0 := 0) rfl (wd_at (by decide) rfl), fun U hU hW => ⟨rfl, by rw [hU]; exact hP, va_K.moved hW.alike hK, hN.warm hW⟩⟩ rfl rfl hl.1 rfl (lv_room (Nat.le_of_ble_eq_true rfl)) d_MO_become_96 ⟨Nat.le_of_ble_eq_true rfl, Nat.le_of_ble_eq_true rfl⟩) hS (fun q _ h => h) (fun q h => h) (fun s21 t H locs ht0 hvm hq hB hz1 hk1 hS => ?_)
      obtain ⟨hP, -, -⟩ := hB
      rw [ht0] at hP
      refine lv_goto (tgt := 154) hx hb d_MO_become_99 (by decide) ?_
      refine lv_aload_n hx hb d_MO_become_154 rfl (lv_at hl 4 rfl) ?_
      refine cw_get (C := R_MO) (T := F_MO) (N := 39) (v := .int (gI s21 10)) hx hb hts (in_MO _) hown hK hP 0 (by decide) rfl rfl 34 (by decide) (ht _ wC_716) rfl d_MO_become_155 ?_
      refine lv_if_ne (tgt := 167) hx hb d_MO_become_158 (by decide) (fun c22 => ?_) (fun c22 => ?_)
      · have hq := hq.2 c22
        exact W.vret hx hb hr (fun t ht hW => ⟨⟨s21, rfl, hq, by rw [ht]; exact hP, va_K.moved hW.alike hK, hN.warm hW⟩, hS.F ht⟩) hS.2.2 d_MO_become_167
      · have hq := hq.1 c22
        refine lv_aload_n hx hb d_MO_become_161 rfl (lv_at hl 4 rfl) ?_
        refine lv_dload hx hb d_MO_become_162 (lv_at hl 0 rfl) ?_
        refine va_callv (va_runV (As := [.double (gD σ 4 p1.toNatClampNeg)]) (rest := []) ⟨hx, hb, hml, hown, hts⟩ (c_MO_end (D := D) (cs := cs) hi hq) (cwV 1 hts (good_V wC_864 wC_866 wC_29 wC_50 wC_867) rfl rfl rfl (by decide +kernel) ⟨(show 0 + 1 ≤ 1 by omega), (show 8 + (3 + 11) + 0 ≤ 25 by omega)⟩) ⟨mP_blind, va_recv hK hP (ci := 5) (q0 := 0) rfl (wd_at (by decide) rfl), fun U hU hW => ⟨rfl, by rw [hU]; exact hP, va_K.moved hW.alike hK, hN.warm hW⟩⟩ rfl rfl hl.1 rfl (lv_room (Nat.le_of_ble_eq_true rfl)) d_MO_become_164 ⟨Nat.le_of_ble_eq_true rfl, Nat.le_of_ble_eq_true rfl⟩) hS (fun q _ h => h) (fun q h => h) (fun s24 t H locs ht0 hvm hq hB hz1 hk1 hS => ?_)
        obtain ⟨hP, -, -⟩ := hB
        rw [ht0] at hP
        exact W.vret hx hb hr (fun t ht hW => ⟨⟨s24, rfl, hq, by rw [ht]; exact hP, va_K.moved hW.alike hK, hN.warm hW⟩, hS.F ht⟩) hS.2.2 d_MO_become_167
  · have hq := hq.1 c1
    refine lv_iload hx hb d_MO_become_40 (lv_at hl 1 rfl) ?_
    refine lv_iconst (v := 4) hx hb d_MO_become_42 (by decide) ?_
    refine lv_icmp_ge (tgt := 54) hx hb d_MO_become_43 (by decide) (fun c25 => ?_) (fun c25 => ?_)
    · have hq := hq.1 c25
      refine lv_dload hx hb d_MO_become_54 (lv_at hl 0 rfl) ?_
      refine lv_dstore (lv' := [(5, .double (gD σ 4 p1.toNatClampNeg)), (4, .int (gA σ 1 ((gA σ 16 p1.toNatClampNeg).toNatClampNeg))), (3, .int (gA σ 17 p1.toNatClampNeg)), (2, .int (gA σ 16 p1.toNatClampNeg)), (0, .ref (am 0)), (1, .int p1)]) hx hb d_MO_become_56 hl (by decide) rfl (fun ls hl => ?_)
      refine lv_dload hx hb d_MO_become_58 (lv_at hl 0 rfl) ?_
      refine va_calli (va_runS (As := [.double (gD σ 4 p1.toNatClampNeg)]) (rest := []) ⟨hx, hb, hml, hown, hts⟩ (c_MO_isGood (D := D) (cs := cs) hi hq) (va_cwS 1 hts (good_S wC_838 wC_839 wC_50 wC_840) rfl rfl rfl (by decide +kernel) ⟨(show 0 + 1 ≤ 1 by omega), (show 8 + (2 + 11) + 0 ≤ 25 by omega)⟩) ⟨mP_blind, fun U hU hW => ⟨rfl, by rw [hU]; exact hP, va_K.moved hW.alike hK, hN.warm hW⟩⟩ rfl rfl hl.1 rfl (lv_room (Nat.le_of_ble_eq_true rfl)) d_MO_become_60 ⟨Nat.le_of_ble_eq_true rfl, Nat.le_of_ble_eq_true rfl⟩) hS (fun q _ h => h) (fun q h => h) (fun r26 s27 t H locs ht0 hvm hq hB hz1 hk1 hS => ?_)
      obtain ⟨hP, -, -⟩ := hB
      rw [ht0] at hP
      refine lv_if_ne (tgt := 74) hx hb d_MO_become_63 (by decide) (fun c28 => ?_) (fun c28 => ?_)
      · have hq := hq.2 c28
        refine lv_aload_n hx hb d_MO_become_74 rfl (lv_at hl 4 rfl) ?_
        refine cw_get (C := R_MO) (T := F_MO) (N := 39) (v := .ref (am 8)) hx hb hts (in_MO _) hown hK hP 0 (by decide) rfl rfl 7 (by decide) (ht _ wC_689) rfl d_MO_become_75 ?_
        refine lv_iload hx hb d_MO_become_78 (lv_at hl 1 rfl) ?_
        refine lv_dload hx hb d_MO_become_80 (lv_at hl 0 rfl) ?_
        refine cw_dast hx hb hK hP hi hS 8 (by decide) rfl 1 rfl hq.1 mpd_0 d_MO_become_82 (fun H locs hP hS => ?_)
        have hq := hq.2
        obtain ⟨s29, e_s29⟩ : ∃ z, z = sD s27 0 (vf_upd (gD s27 0) ((gA σ 1 ((gA σ 16 p1.toNatClampNeg).toNatClampNeg)).toNatClampNeg) (gD σ 4 p1.toNatClampNeg)) := ⟨_, rfl⟩
        rw [← e_s29] at hP
        have hq := hq s29 e_s29
        refine lv_goto (tgt := 154) hx hb d_MO_become_83 (by decide) ?_
        refine lv_aload_n hx hb d_MO_become_154 rfl (lv_at hl 4 rfl) ?_
        refine cw_get (C := R_MO) (T := F_MO) (N := 39) (v := .int (gI s29 10)) hx hb hts (in_MO _) hown hK hP 0 (by decide) rfl rfl 34 (by decide) (ht _ wC_716) rfl d_MO_become_155 ?_
        refine lv_if_ne (tgt := 167) hx hb d_MO_become_158 (by decide) (fun c30 => ?_) (fun c30 => ?_)
        · have hq := hq.2 c30
          exact W.vret hx hb hr (fun t ht hW => ⟨⟨s29, rfl, hq, by rw [ht]; exact hP, va_K.moved hW.alike hK, hN.warm hW⟩, hS.F ht⟩) hS.2.2 d_MO_become_167
        · have hq := hq.1 c30
          refine lv_aload_n hx hb d_MO_become_161 rfl (lv_at hl 4 rfl) ?_
          refine lv_dload hx hb d_MO_become_162 (lv_at hl 0 rfl) ?_
          refine va_callv (va_runV (As := [.double (gD σ 4 p1.toNatClampNeg)]) (rest := []) ⟨hx, hb, hml, hown, hts⟩ (c_MO_end (D := D) (cs := cs) hi hq) (cwV 1 hts (good_V wC_864 wC_866 wC_29 wC_50 wC_867) rfl rfl rfl (by decide +kernel) ⟨(show 0 + 1 ≤ 1 by omega), (show 8 + (3 + 11) + 0 ≤ 25 by omega)⟩) ⟨mP_blind, va_recv hK hP (ci := 5) (q0 := 0) rfl (wd_at (by decide) rfl), fun U hU hW => ⟨rfl, by rw [hU]; exact hP, va_K.moved hW.alike hK, hN.warm hW⟩⟩ rfl rfl hl.1 rfl (lv_room (Nat.le_of_ble_eq_true rfl)) d_MO_become_164 ⟨Nat.le_of_ble_eq_true rfl, Nat.le_of_ble_eq_true rfl⟩) hS (fun q _ h => h) (fun q h => h) (fun s32 t H locs ht0 hvm hq hB hz1 hk1 hS => ?_)
          obtain ⟨hP, -, -⟩ := hB
          rw [ht0] at hP
          exact W.vret hx hb hr (fun t ht hW => ⟨⟨s32, rfl, hq, by rw [ht]; exact hP, va_K.moved hW.alike hK, hN.warm hW⟩, hS.F ht⟩) hS.2.2 d_MO_become_167
      · have hq := hq.1 c28
        refine lv_aload_n hx hb d_MO_become_66 rfl (lv_at hl 4 rfl) ?_
        refine lv_iconst (v := 2) hx hb d_MO_become_67 (by decide) ?_
        refine va_callv (va_runV (As := [.int 2]) (rest := []) ⟨hx, hb, hml, hown, hts⟩ (c_MO_wrong (D := D) (cs := cs) hi hq) (cwV 1 hts (good_V wC_855 wC_857 wC_27 wC_50 wC_858) rfl rfl rfl (by decide +kernel) ⟨(show 0 + 1 ≤ 1 by omega), (show 8 + (2 + 11) + 0 ≤ 25 by omega)⟩) ⟨mP_blind, va_recv hK hP (ci := 5) (q0 := 0) rfl (wd_at (by decide) rfl), fun U hU hW => ⟨rfl, by rw [hU]; exact hP, va_K.moved hW.alike hK, hN.warm hW⟩⟩ rfl rfl hl.1 rfl (lv_room (Nat.le_of_ble_eq_true rfl)) d_MO_become_68 ⟨Nat.le_of_ble_eq_true rfl, Nat.le_of_ble_eq_true rfl⟩) hS (fun q _ h => h) (fun q h => h) (fun s34 t H locs ht0 hvm hq hB hz1 hk1 hS => ?_)
        obtain ⟨hP, -, -⟩ := hB
        rw [ht0] at hP
        refine lv_goto (tgt := 154) hx hb d_MO_become_71 (by decide) ?_
        refine lv_aload_n hx hb d_MO_become_154 rfl (lv_at hl 4 rfl) ?_
        refine cw_get (C := R_MO) (T := F_MO) (N := 39) (v := .int (gI s34 10)) hx hb hts (in_MO _) hown hK hP 0 (by decide) rfl rfl 34 (by decide) (ht _ wC_716) rfl d_MO_become_155 ?_
        refine lv_if_ne (tgt := 167) hx hb d_MO_become_158 (by decide) (fun c35 => ?_) (fun c35 => ?_)
        · have hq := hq.2 c35
          exact W.vret hx hb hr (fun t ht hW => ⟨⟨s34, rfl, hq, by rw [ht]; exact hP, va_K.moved hW.alike hK, hN.warm hW⟩, hS.F ht⟩) hS.2.2 d_MO_become_167
        · have hq := hq.1 c35
          refine lv_aload_n hx hb d_MO_become_161 rfl (lv_at hl 4 rfl) ?_
          refine lv_dload hx hb d_MO_become_162 (lv_at hl 0 rfl) ?_
          refine va_callv (va_runV (As := [.double (gD σ 4 p1.toNatClampNeg)]) (rest := []) ⟨hx, hb, hml, hown, hts⟩ (c_MO_end (D := D) (cs := cs) hi hq) (cwV 1 hts (good_V wC_864 wC_866 wC_29 wC_50 wC_867) rfl rfl rfl (by decide +kernel) ⟨(show 0 + 1 ≤ 1 by omega), (show 8 + (3 + 11) + 0 ≤ 25 by omega)⟩) ⟨mP_blind, va_recv hK hP (ci := 5) (q0 := 0) rfl (wd_at (by decide) rfl), fun U hU hW => ⟨rfl, by rw [hU]; exact hP, va_K.moved hW.alike hK, hN.warm hW⟩⟩ rfl rfl hl.1 rfl (lv_room (Nat.le_of_ble_eq_true rfl)) d_MO_become_164 ⟨Nat.le_of_ble_eq_true rfl, Nat.le_of_ble_eq_true rfl⟩) hS (fun q _ h => h) (fun q h => h) (fun s37 t H locs ht0 hvm hq hB hz1 hk1 hS => ?_)
          obtain ⟨hP, -, -⟩ := hB
          rw [ht0] at hP
          exact W.vret hx hb hr (fun t ht hW => ⟨⟨s37, rfl, hq, by rw [ht]; exact hP, va_K.moved hW.alike hK, hN.warm hW⟩, hS.F ht⟩) hS.2.2 d_MO_become_167
    · have hq := hq.2 c25
      refine lv_dload hx hb d_MO_become_46 (lv_at hl 0 rfl) ?_
      refine va_calld (va_runS (As := [.double (gD σ 4 p1.toNatClampNeg)]) (rest := []) ⟨hx, hb, hml, hown, hts⟩ (c_MO_round (D := D) (cs := cs) hi hq) (va_cwS 1 hts (good_S wC_843 wC_844 wC_50 wC_845) rfl rfl rfl (by decide +kernel) ⟨(show 0 + 1 ≤ 1 by omega), (show 8 + (6 + 11) + 0 ≤ 25 by omega)⟩) ⟨mP_blind, fun U hU hW => ⟨rfl, by rw [hU]; exact hP, va_K.moved hW.alike hK, hN.warm hW⟩⟩ rfl rfl hl.1 rfl (lv_room (Nat.le_of_ble_eq_true rfl)) d_MO_become_48 ⟨Nat.le_of_ble_eq_true rfl, Nat.le_of_ble_eq_true rfl⟩) hS (fun q _ h => h) (fun q h => h) (fun r38 s39 t H locs ht0 hvm hq hB hz1 hk1 hS => ?_)
      obtain ⟨hP, -, -⟩ := hB
      rw [ht0] at hP
      refine lv_goto (tgt := 56) hx hb d_MO_become_51 (by decide) ?_
      refine lv_dstore (lv' := [(5, .double r38), (4, .int (gA σ 1 ((gA σ 16 p1.toNatClampNeg).toNatClampNeg))), (3, .int (gA σ 17 p1.toNatClampNeg)), (2, .int (gA σ 16 p1.toNatClampNeg)), (0, .ref (am 0)), (1, .int p1)]) hx hb d_MO_become_56 hl (by decide) rfl (fun ls hl => ?_)
      refine lv_dload hx hb d_MO_become_58 (lv_at hl 0 rfl) ?_
      refine va_calli (va_runS (As := [.double r38]) (rest := []) ⟨hx, hb, hml, hown, hts⟩ (c_MO_isGood (D := D) (cs := cs) hi hq) (va_cwS 1 hts (good_S wC_838 wC_839 wC_50 wC_840) rfl rfl rfl (by decide +kernel) ⟨(show 0 + 1 ≤ 1 by omega), (show 8 + (2 + 11) + 0 ≤ 25 by omega)⟩) ⟨mP_blind, fun U hU hW => ⟨rfl, by rw [hU]; exact hP, va_K.moved hW.alike hK, hN.warm hW⟩⟩ rfl rfl hl.1 rfl (lv_room (Nat.le_of_ble_eq_true rfl)) d_MO_become_60 ⟨Nat.le_of_ble_eq_true rfl, Nat.le_of_ble_eq_true rfl⟩) hS (fun q _ h => h) (fun q h => h) (fun r40 s41 t H locs ht0 hvm hq hB hz1 hk1 hS => ?_)
      obtain ⟨hP, -, -⟩ := hB
      rw [ht0] at hP
      refine lv_if_ne (tgt := 74) hx hb d_MO_become_63 (by decide) (fun c42 => ?_) (fun c42 => ?_)
      · have hq := hq.2 c42
        refine lv_aload_n hx hb d_MO_become_74 rfl (lv_at hl 4 rfl) ?_
        refine cw_get (C := R_MO) (T := F_MO) (N := 39) (v := .ref (am 8)) hx hb hts (in_MO _) hown hK hP 0 (by decide) rfl rfl 7 (by decide) (ht _ wC_689) rfl d_MO_become_75 ?_
        refine lv_iload hx hb d_MO_become_78 (lv_at hl 1 rfl) ?_
        refine lv_dload hx hb d_MO_become_80 (lv_at hl 0 rfl) ?_
        refine cw_dast hx hb hK hP hi hS 8 (by decide) rfl 1 rfl hq.1 mpd_0 d_MO_become_82 (fun H locs hP hS => ?_)
        have hq := hq.2
        obtain ⟨s43, e_s43⟩ : ∃ z, z = sD s41 0 (vf_upd (gD s41 0) ((gA σ 1 ((gA σ 16 p1.toNatClampNeg).toNatClampNeg)).toNatClampNeg) r38) := ⟨_, rfl⟩
        rw [← e_s43] at hP
        have hq := hq s43 e_s43
        refine lv_goto (tgt := 154) hx hb d_MO_become_83 (by decide) ?_
        refine lv_aload_n hx hb d_MO_become_154 rfl (lv_at hl 4 rfl) ?_
        refine cw_get (C := R_MO) (T := F_MO) (N := 39) (v := .int (gI s43 10)) hx hb hts (in_MO _) hown hK hP 0 (by decide) rfl rfl 34 (by decide) (ht _ wC_716) rfl d_MO_become_155 ?_
        refine lv_if_ne (tgt := 167) hx hb d_MO_become_158 (by decide) (fun c44 => ?_) (fun c44 => ?_)
        · have hq := hq.2 c44
          exact W.vret hx hb hr (fun t ht hW => ⟨⟨s43, rfl, hq, by rw [ht]; exact hP, va_K.moved hW.alike hK, hN.warm hW⟩, hS.F ht⟩) hS.2.2 d_MO_become_167
        · have hq := hq.1 c44
          refine lv_aload_n hx hb d_MO_become_161 rfl (lv_at hl 4 rfl) ?_
          refine lv_dload hx hb d_MO_become_162 (lv_at hl 0 rfl) ?_
          refine va_callv (va_runV (As := [.double r38]) (rest := []) ⟨hx, hb, hml, hown, hts⟩ (c_MO_end (D := D) (cs := cs) hi hq) (cwV 1 hts (good_V wC_864 wC_866 wC_29 wC_50 wC_867) rfl rfl rfl (by decide +kernel) ⟨(show 0 + 1 ≤ 1 by omega), (show 8 + (3 + 11) + 0 ≤ 25 by omega)⟩) ⟨mP_blind, va_recv hK hP (ci := 5) (q0 := 0) rfl (wd_at (by decide) rfl), fun U hU hW => ⟨rfl, by rw [hU]; exact hP, va_K.moved hW.alike hK, hN.warm hW⟩⟩ rfl rfl hl.1 rfl (lv_room (Nat.le_of_ble_eq_true rfl)) d_MO_become_164 ⟨Nat.le_of_ble_eq_true rfl, Nat.le_of_ble_eq_true rfl⟩) hS (fun q _ h => h) (fun q h => h) (fun s46 t H locs ht0 hvm hq hB hz1 hk1 hS => ?_)
          obtain ⟨hP, -, -⟩ := hB
          rw [ht0] at hP
          exact W.vret hx hb hr (fun t ht hW => ⟨⟨s46, rfl, hq, by rw [ht]; exact hP, va_K.moved hW.alike hK, hN.warm hW⟩, hS.F ht⟩) hS.2.2 d_MO_become_167
      · have hq := hq.1 c42
        refine lv_aload_n hx hb d_MO_become_66 rfl (lv_at hl 4 rfl) ?_
        refine lv_iconst (v := 2) hx hb d_MO_become_67 (by decide) ?_
        refine va_callv (va_runV (As := [.int 2]) (rest := []) ⟨hx, hb, hml, hown, hts⟩ (c_MO_wrong (D := D) (cs := cs) hi hq) (cwV 1 hts (good_V wC_855 wC_857 wC_27 wC_50 wC_858) rfl rfl rfl (by decide +kernel) ⟨(show 0 + 1 ≤ 1 by omega), (show 8 + (2 + 11) + 0 ≤ 25 by omega)⟩) ⟨mP_blind, va_recv hK hP (ci := 5) (q0 := 0) rfl (wd_at (by decide) rfl), fun U hU hW => ⟨rfl, by rw [hU]; exact hP, va_K.moved hW.alike hK, hN.warm hW⟩⟩ rfl rfl hl.1 rfl (lv_room (Nat.le_of_ble_eq_true rfl)) d_MO_become_68 ⟨Nat.le_of_ble_eq_true rfl, Nat.le_of_ble_eq_true rfl⟩) hS (fun q _ h => h) (fun q h => h) (fun s48 t H locs ht0 hvm hq hB hz1 hk1 hS => ?_)
        obtain ⟨hP, -, -⟩ := hB
        rw [ht0] at hP
        refine lv_goto (tgt := 154) hx hb d_MO_become_71 (by decide) ?_
        refine lv_aload_n hx hb d_MO_become_154 rfl (lv_at hl 4 rfl) ?_
        refine cw_get (C := R_MO) (T := F_MO) (N := 39) (v := .int (gI s48 10)) hx hb hts (in_MO _) hown hK hP 0 (by decide) rfl rfl 34 (by decide) (ht _ wC_716) rfl d_MO_become_155 ?_
        refine lv_if_ne (tgt := 167) hx hb d_MO_become_158 (by decide) (fun c49 => ?_) (fun c49 => ?_)
        · have hq := hq.2 c49
          exact W.vret hx hb hr (fun t ht hW => ⟨⟨s48, rfl, hq, by rw [ht]; exact hP, va_K.moved hW.alike hK, hN.warm hW⟩, hS.F ht⟩) hS.2.2 d_MO_become_167
        · have hq := hq.1 c49
          refine lv_aload_n hx hb d_MO_become_161 rfl (lv_at hl 4 rfl) ?_
          refine lv_dload hx hb d_MO_become_162 (lv_at hl 0 rfl) ?_
          refine va_callv (va_runV (As := [.double r38]) (rest := []) ⟨hx, hb, hml, hown, hts⟩ (c_MO_end (D := D) (cs := cs) hi hq) (cwV 1 hts (good_V wC_864 wC_866 wC_29 wC_50 wC_867) rfl rfl rfl (by decide +kernel) ⟨(show 0 + 1 ≤ 1 by omega), (show 8 + (3 + 11) + 0 ≤ 25 by omega)⟩) ⟨mP_blind, va_recv hK hP (ci := 5) (q0 := 0) rfl (wd_at (by decide) rfl), fun U hU hW => ⟨rfl, by rw [hU]; exact hP, va_K.moved hW.alike hK, hN.warm hW⟩⟩ rfl rfl hl.1 rfl (lv_room (Nat.le_of_ble_eq_true rfl)) d_MO_become_164 ⟨Nat.le_of_ble_eq_true rfl, Nat.le_of_ble_eq_true rfl⟩) hS (fun q _ h => h) (fun q h => h) (fun s51 t H locs ht0 hvm hq hB hz1 hk1 hS => ?_)
          obtain ⟨hP, -, -⟩ := hB
          rw [ht0] at hP
          exact W.vret hx hb hr (fun t ht hW => ⟨⟨s51, rfl, hq, by rw [ht]; exact hP, va_K.moved hW.alike hK, hN.warm hW⟩, hS.F ht⟩) hS.2.2 d_MO_become_167
def wp_MO_set (p1 : Int32) (p2 : Int32) (σ : CS) (Q : CS → Prop) : Prop := (vp_in p1 310 ∧ (((gA σ 13 p1.toNatClampNeg) = 0 → (vp_in p2 48 ∧ (vp_in (gA σ 1 p2.toNatClampNeg) 48 ∧ (wp_MO_isGoal (gA σ 0 ((gA σ 1 p2.toNatClampNeg).toNatClampNeg)) σ (fun r2 s3 => ((r2 = 0 → (wp_MO_wrong 6 s3 (fun s10 => (vp_in p1 310 ∧ (∀ s11 : CS, s11 = sA s10 13 (upd (gA s10 13) p1.toNatClampNeg 1) → (((gI s11 10) = 0 → (vp_in p2 48 ∧ (vp_in p1 310 ∧ (wp_MO_enter (gA s11 2 p2.toNatClampNeg) (gA s11 12 p1.toNatClampNeg) s11 (fun s14 => Q s14))))) ∧ (¬ (gI s11 10) = 0 → Q s11))))))) ∧ (¬ r2 = 0 → (vp_in p1 310 ∧ (∀ s5 : CS, s5 = sA s3 13 (upd (gA s3 13) p1.toNatClampNeg 1) → (((gI s5 10) = 0 → (vp_in p2 48 ∧ (vp_in p1 310 ∧ (wp_MO_enter (gA s5 2 p2.toNatClampNeg) (gA s5 12 p1.toNatClampNeg) s5 (fun s8 => Q s8))))) ∧ (¬ (gI s5 10) = 0 → Q s5))))))))))) ∧ (¬ (gA σ 13 p1.toNatClampNeg) = 0 → (((gA σ 13 p1.toNatClampNeg) = 1 → (vp_in p1 310 ∧ (∀ s16 : CS, s16 = sD σ 4 (vf_upd (gD σ 4) p1.toNatClampNeg (gX σ 0)) → (vp_in p2 48 ∧ (vp_in p1 310 ∧ (∀ s17 : CS, s17 = sA s16 16 (upd (gA s16 16) p1.toNatClampNeg (gA s16 1 p2.toNatClampNeg)) → (vp_in p1 310 ∧ (vp_in p1 310 ∧ (∀ s18 : CS, s18 = sA s17 17 (upd (gA s17 17) p1.toNatClampNeg (gA s17 12 p1.toNatClampNeg)) → (wp_MO_follow p1 s18 (fun s20 => (((gI s20 10) ≤ 0 → (vp_in p1 310 ∧ (vp_in (gA s20 16 p1.toNatClampNeg) 48 ∧ (((gA s20 0 ((gA s20 16 p1.toNatClampNeg).toNatClampNeg)) = 2 → (vp_in p1 310 ∧ (∀ s23 : CS, s23 = sA s20 13 (upd (gA s20 13) p1.toNatClampNeg 2) → (vp_in p1 310 ∧ (vp_in (gA s23 16 p1.toNatClampNeg) 48 ∧ (vp_in p1 310 ∧ (wp_MO_enter (gA s23 1 ((gA s23 16 p1.toNatClampNeg).toNatClampNeg)) (gA s23 17 p1.toNatClampNeg) s23 (fun s25 => Q s25)))))))) ∧ (¬ (gA s20 0 ((gA s20 16 p1.toNatClampNeg).toNatClampNeg)) = 2 → (wp_MO_become p1 s20 (fun s27 => Q s27))))))) ∧ (¬ (gI s20 10) ≤ 0 → Q s20))))))))))))) ∧ (¬ (gA σ 13 p1.toNatClampNeg) = 1 → (((gA σ 13 p1.toNatClampNeg) = 2 → (vp_in p1 310 ∧ (∀ s29 : CS, s29 = sD σ 5 (vf_upd (gD σ 5) p1.toNatClampNeg (gX σ 0)) → (vp_in p1 310 ∧ (∀ s30 : CS, s30 = sA s29 13 (upd (gA s29 13) p1.toNatClampNeg 3) → (vp_in p1 310 ∧ (vp_in (gA s30 16 p1.toNatClampNeg) 48 ∧ (vp_in p1 310 ∧ (wp_MO_enter (gA s30 2 ((gA s30 16 p1.toNatClampNeg).toNatClampNeg)) (gA s30 17 p1.toNatClampNeg) s30 (fun s32 => Q s32)))))))))) ∧ (¬ (gA σ 13 p1.toNatClampNeg) = 2 → (vp_in p1 310 ∧ (wp_MO_round (gD σ 5 p1.toNatClampNeg) σ (fun r33 s34 => (wp_MO_round (gX s34 0) s34 (fun r35 s36 => (wp_MO_place r33 r35 s36 (fun r37 s38 => ((0 ≤ r37 → (vp_in p1 310 ∧ (wp_MO_isGood (gD s38 4 p1.toNatClampNeg) s38 (fun r40 s41 => ((r40 = 0 → (wp_MO_wrong 2 s41 (fun s47 => Q s47))) ∧ (¬ r40 = 0 → (vp_in p1 310 ∧ (vp_in r37 25 ∧ (∀ s43 : CS, s43 = sD s41 1 (vf_upd (gD s41 1) r37.toNatClampNeg (gD s41 4 p1.toNatClampNeg)) → (vp_in p1 310 ∧ (wp_MO_end (gD s43 4 p1.toNatClampNeg) s43 (fun s45 => Q s45)))))))))))) ∧ (¬ 0 ≤ r37 → (wp_MO_wrong 3 s38 (fun s49 => Q s49))))))))))))))))))
set_option maxHeartbeats 4000000 in
set_option maxRecDepth 100000 in
theorem c_MO_set {l : Launch} {D : va_G} {cs : CI} {am : Nat → Nat} (hi : aI am 25) {p1 : Int32} {p2 : Int32} {σ : CS} {Q : CS → Prop} (hq : wp_MO_set p1 p2 σ Q) : Met l y_MO_set (.code y_MO_set b_MO_set 4 none :: wC) ({ frames := 3, cells := 0, slots := 0, locals := 64 }) (va_Pc [.ref (am 0), .int p1, .int p2] (mP D cs am σ)) (va_Qv Q (mP D cs am) (aK am 25)) 0 0 (aK am 25) := by
  refine Met.ofW (cc := b_MO_set) (maxL := 4) (ret := none) (by decide) rfl ?_
  intro p e s m args below meth c s₁ B hml hv
  obtain ⟨rfl, hP, hK, hN⟩ := hv
  have hx := B.exec
  have hb := B.bytes
  have hr := B.returns
  have hts := atoms_spec (ws := .code y_MO_set b_MO_set 4 none :: wC) B.pre
  have ht : ∀ w ∈ wC, w.before _ s = true := fun w h => hts w (List.mem_cons_of_mem _ h)
  have hown : s.vm.findClass R_MO = some m.cls := findClass_of_methodNamed B.named
  have hlocks := B.notSynchronized
  have hS : va_S (aK am 25) s.heap s.heap [] := va_S.rf
  have hl := lv_entry ([.ref (am 0), .int p1, .int p2]) (n := 4) (Nat.le_of_ble_eq_true rfl)
  rw [lg_entry_eq]
  generalize (lg_sl ([.ref (am 0), .int p1, .int p2]) ++ List.replicate (4 - (lg_sl ([.ref (am 0), .int p1, .int p2])).length) Slot.unset).toArray = ls at hl ⊢
  have hl : lv_has ls 4 [(0, .ref (am 0)), (1, .int p1), (2, .int p2)] := hl
  unfold wp_MO_set at hq
  have hh8 : 8 < 9 := by decide
  refine lv_aload_n hx hb d_MO_set_0 rfl (lv_at hl 0 rfl) ?_
  refine cw_get (C := R_MO) (T := F_MO) (N := 39) (v := .ref (am 18)) hx hb hts (in_MO _) hown hK hP 0 (by decide) rfl rfl 25 (by decide) (ht _ wC_707) rfl d_MO_set_1 ?_
  refine lv_iload_n hx hb d_MO_set_4 rfl (lv_at hl 1 rfl) ?_
  refine cw_iald hx hb hK hP 18 (by decide) rfl 0 rfl hq.1 d_MO_set_5 ?_
  have hq := hq.2
  by_cases c1 : (gA σ 13 p1.toNatClampNeg) = 0
  · have hq := hq.1 c1
    refine lv_tableIn (tgt := 32) hx hb d_MO_set_6 (by rw [c1]; decide) (by rw [c1]; decide) (by rw [c1]; rfl) (by decide) ?_
    refine lv_aload_n hx hb d_MO_set_32 rfl (lv_at hl 0 rfl) ?_
    refine cw_get (C := R_MO) (T := F_MO) (N := 39) (v := .ref (am 1)) hx hb hts (in_MO _) hown hK hP 0 (by decide) rfl rfl 0 (by decide) (ht _ wC_682) rfl d_MO_set_33 ?_
    refine lv_aload_n hx hb d_MO_set_36 rfl (lv_at hl 0 rfl) ?_
    refine cw_get (C := R_MO) (T := F_MO) (N := 39) (v := .ref (am 2)) hx hb hts (in_MO _) hown hK hP 0 (by decide) rfl rfl 1 (by decide) (ht _ wC_683) rfl d_MO_set_37 ?_
    refine lv_iload_n hx hb d_MO_set_40 rfl (lv_at hl 2 rfl) ?_
    refine cw_iald hx hb hK hP 2 (by decide) rfl 0 rfl hq.1 d_MO_set_41 ?_
    have hq := hq.2
    refine cw_iald hx hb hK hP 1 (by decide) rfl 0 rfl hq.1 d_MO_set_42 ?_
    have hq := hq.2
    refine va_calli (va_runS (As := [.int (gA σ 0 ((gA σ 1 p2.toNatClampNeg).toNatClampNeg))]) (rest := []) ⟨hx, hb, hml, hown, hts⟩ (c_MO_isGoal (D := D) (cs := cs) hi hq) (va_cwS 1 hts (good_S wC_892 wC_893 wC_50 wC_894) rfl rfl rfl (by decide +kernel) ⟨(show 0 + 1 ≤ 3 by omega), (show 8 + (1 + 11) + 0 ≤ 64 by omega)⟩) ⟨mP_blind, fun U hU hW => ⟨rfl, by rw [hU]; exact hP, va_K.moved hW.alike hK, hN.warm hW⟩⟩ rfl rfl hl.1 rfl (lv_room (Nat.le_of_ble_eq_true rfl)) d_MO_set_43 ⟨Nat.le_of_ble_eq_true rfl, Nat.le_of_ble_eq_true rfl⟩) hS (fun q _ h => h) (fun q h => h) (fun r2 s3 t H locs ht0 hvm hq hB hz1 hk1 hS => ?_)
    obtain ⟨hP, -, -⟩ := hB
    rw [ht0] at hP
    refine lv_if_ne (tgt := 55) hx hb d_MO_set_46 (by decide) (fun c4 => ?_) (fun c4 => ?_)
    · have hq := hq.2 c4
      refine lv_aload_n hx hb d_MO_set_55 rfl (lv_at hl 0 rfl) ?_
      refine cw_get (C := R_MO) (T := F_MO) (N := 39) (v := .ref (am 18)) hx hb hts (in_MO _) hown hK hP 0 (by decide) rfl rfl 25 (by decide) (ht _ wC_707) rfl d_MO_set_56 ?_
      refine lv_iload_n hx hb d_MO_set_59 rfl (lv_at hl 1 rfl) ?_
      refine lv_iconst (v := 1) hx hb d_MO_set_60 (by decide) ?_
      refine cw_iast hx hb hK hP hi hS 18 (by decide) rfl 0 rfl hq.1 mpa_13 d_MO_set_61 (fun H locs hP hS => ?_)
      have hq := hq.2
      obtain ⟨s5, e_s5⟩ : ∃ z, z = sA s3 13 (upd (gA s3 13) p1.toNatClampNeg 1) := ⟨_, rfl⟩
      rw [← e_s5] at hP
      have hq := hq s5 e_s5
      refine lv_aload_n hx hb d_MO_set_62 rfl (lv_at hl 0 rfl) ?_
      refine cw_get (C := R_MO) (T := F_MO) (N := 39) (v := .int (gI s5 10)) hx hb hts (in_MO _) hown hK hP 0 (by decide) rfl rfl 34 (by decide) (ht _ wC_716) rfl d_MO_set_63 ?_
      refine lv_if_ne (tgt := 85) hx hb d_MO_set_66 (by decide) (fun c6 => ?_) (fun c6 => ?_)
      · have hq := hq.2 c6
        exact W.vret hx hb hr (fun t ht hW => ⟨⟨s5, rfl, hq, by rw [ht]; exact hP, va_K.moved hW.alike hK, hN.warm hW⟩, hS.F ht⟩) hS.2.2 d_MO_set_85
      · have hq := hq.1 c6
        refine lv_aload_n hx hb d_MO_set_69 rfl (lv_at hl 0 rfl) ?_
        refine lv_aload_n hx hb d_MO_set_70 rfl (lv_at hl 0 rfl) ?_
        refine cw_get (C := R_MO) (T := F_MO) (N := 39) (v := .ref (am 3)) hx hb hts (in_MO _) hown hK hP 0 (by decide) rfl rfl 2 (by decide) (ht _ wC_684) rfl d_MO_set_71 ?_
        refine lv_iload_n hx hb d_MO_set_74 rfl (lv_at hl 2 rfl) ?_
        refine cw_iald hx hb hK hP 3 (by decide) rfl 0 rfl hq.1 d_MO_set_75 ?_
        have hq := hq.2
        refine lv_aload_n hx hb d_MO_set_76 rfl (lv_at hl 0 rfl) ?_
        refine cw_get (C := R_MO) (T := F_MO) (N := 39) (v := .ref (am 17)) hx hb hts (in_MO _) hown hK hP 0 (by decide) rfl rfl 24 (by decide) (ht _ wC_706) rfl d_MO_set_77 ?_
        refine lv_iload_n hx hb d_MO_set_80 rfl (lv_at hl 1 rfl) ?_
        refine cw_iald hx hb hK hP 17 (by decide) rfl 0 rfl hq.1 d_MO_set_81 ?_
        have hq := hq.2
        refine va_callv (va_runV (As := [.int (gA s5 2 p2.toNatClampNeg), .int (gA s5 12 p1.toNatClampNeg)]) (rest := []) ⟨hx, hb, hml, hown, hts⟩ (c_MO_enter (D := D) (cs := cs) hi hq) (cwV 2 hts (good_V wC_851 wC_853 wC_26 wC_50 wC_854) rfl rfl rfl (by decide +kernel) ⟨(show 1 + 1 ≤ 3 by omega), (show 8 + (3 + 11) + 21 ≤ 64 by omega)⟩) ⟨mP_blind, va_recv hK hP (ci := 5) (q0 := 0) rfl (wd_at (by decide) rfl), fun U hU hW => ⟨rfl, by rw [hU]; exact hP, va_K.moved hW.alike hK, hN.warm hW⟩⟩ rfl rfl hl.1 rfl (lv_room (Nat.le_of_ble_eq_true rfl)) d_MO_set_82 ⟨Nat.le_of_ble_eq_true rfl, Nat.le_of_ble_eq_true rfl⟩) hS (fun q _ h => h) (fun q h => h) (fun s8 t H locs ht0 hvm hq hB hz1 hk1 hS => ?_)
        obtain ⟨hP, -, -⟩ := hB
        rw [ht0] at hP
        exact W.vret hx hb hr (fun t ht hW => ⟨⟨s8, rfl, hq, by rw [ht]; exact hP, va_K.moved hW.alike hK, hN.warm hW⟩, hS.F ht⟩) hS.2.2 d_MO_set_85
    · have hq := hq.1 c4
      refine lv_aload_n hx hb d_MO_set_49 rfl (lv_at hl 0 rfl) ?_
      refine lv_bipush (v := 6) hx hb d_MO_set_50 (by decide) ?_
      refine va_callv (va_runV (As := [.int 6]) (rest := []) ⟨hx, hb, hml, hown, hts⟩ (c_MO_wrong (D := D) (cs := cs) hi hq) (cwV 1 hts (good_V wC_855 wC_857 wC_27 wC_50 wC_858) rfl rfl rfl (by decide +kernel) ⟨(show 0 + 1 ≤ 3 by omega), (show 8 + (2 + 11) + 0 ≤ 64 by omega)⟩) ⟨mP_blind, va_recv hK hP (ci := 5) (q0 := 0) rfl (wd_at (by decide) rfl), fun U hU hW => ⟨rfl, by rw [hU]; exact hP, va_K.moved hW.alike hK, hN.warm hW⟩⟩ rfl rfl hl.1 rfl (lv_room (Nat.le_of_ble_eq_true rfl)) d_MO_set_52 ⟨Nat.le_of_ble_eq_true rfl, Nat.le_of_ble_eq_true rfl⟩) hS (fun q _ h => h) (fun q h => h) (fun s10 t H locs ht0 hvm hq hB hz1 hk1 hS => ?_)
      obtain ⟨hP, -, -⟩ := hB
      rw [ht0] at hP
      refine lv_aload_n hx hb d_MO_set_55 rfl (lv_at hl 0 rfl) ?_
      refine cw_get (C := R_MO) (T := F_MO) (N := 39) (v := .ref (am 18)) hx hb hts (in_MO _) hown hK hP 0 (by decide) rfl rfl 25 (by decide) (ht _ wC_707) rfl d_MO_set_56 ?_
      refine lv_iload_n hx hb d_MO_set_59 rfl (lv_at hl 1 rfl) ?_
      refine lv_iconst (v := 1) hx hb d_MO_set_60 (by decide) ?_
      refine cw_iast hx hb hK hP hi hS 18 (by decide) rfl 0 rfl hq.1 mpa_13 d_MO_set_61 (fun H locs hP hS => ?_)
      have hq := hq.2
      obtain ⟨s11, e_s11⟩ : ∃ z, z = sA s10 13 (upd (gA s10 13) p1.toNatClampNeg 1) := ⟨_, rfl⟩
      rw [← e_s11] at hP
      have hq := hq s11 e_s11
      refine lv_aload_n hx hb d_MO_set_62 rfl (lv_at hl 0 rfl) ?_
      refine cw_get (C := R_MO) (T := F_MO) (N := 39) (v := .int (gI s11 10)) hx hb hts (in_MO _) hown hK hP 0 (by decide) rfl rfl 34 (by decide) (ht _ wC_716) rfl d_MO_set_63 ?_
      refine lv_if_ne (tgt := 85) hx hb d_MO_set_66 (by decide) (fun c12 => ?_) (fun c12 => ?_)
      · have hq := hq.2 c12
        exact W.vret hx hb hr (fun t ht hW => ⟨⟨s11, rfl, hq, by rw [ht]; exact hP, va_K.moved hW.alike hK, hN.warm hW⟩, hS.F ht⟩) hS.2.2 d_MO_set_85
      · have hq := hq.1 c12
        refine lv_aload_n hx hb d_MO_set_69 rfl (lv_at hl 0 rfl) ?_
        refine lv_aload_n hx hb d_MO_set_70 rfl (lv_at hl 0 rfl) ?_
        refine cw_get (C := R_MO) (T := F_MO) (N := 39) (v := .ref (am 3)) hx hb hts (in_MO _) hown hK hP 0 (by decide) rfl rfl 2 (by decide) (ht _ wC_684) rfl d_MO_set_71 ?_
        refine lv_iload_n hx hb d_MO_set_74 rfl (lv_at hl 2 rfl) ?_
        refine cw_iald hx hb hK hP 3 (by decide) rfl 0 rfl hq.1 d_MO_set_75 ?_
        have hq := hq.2
        refine lv_aload_n hx hb d_MO_set_76 rfl (lv_at hl 0 rfl) ?_
        refine cw_get (C := R_MO) (T := F_MO) (N := 39) (v := .ref (am 17)) hx hb hts (in_MO _) hown hK hP 0 (by decide) rfl rfl 24 (by decide) (ht _ wC_706) rfl d_MO_set_77 ?_
        refine lv_iload_n hx hb d_MO_set_80 rfl (lv_at hl 1 rfl) ?_
        refine cw_iald hx hb hK hP 17 (by decide) rfl 0 rfl hq.1 d_MO_set_81 ?_
        have hq := hq.2
        refine va_callv (va_runV (As := [.int (gA s11 2 p2.toNatClampNeg), .int (gA s11 12 p1.toNatClampNeg)]) (rest := []) ⟨hx, hb, hml, hown, hts⟩ (c_MO_enter (D := D) (cs := cs) hi hq) (cwV 2 hts (good_V wC_851 wC_853 wC_26 wC_50 wC_854) rfl rfl rfl (by decide +kernel) ⟨(show 1 + 1 ≤ 3 by omega), (show 8 + (3 + 11) + 21 ≤ 64 by omega)⟩) ⟨mP_blind, va_recv hK hP (ci := 5) (q0 := 0) rfl (wd_at (by decide) rfl), fun U hU hW => ⟨rfl, by rw [hU]; exact hP, va_K.moved hW.alike hK, hN.warm hW⟩⟩ rfl rfl hl.1 rfl (lv_room (Nat.le_of_ble_eq_true rfl)) d_MO_set_82 ⟨Nat.le_of_ble_eq_true rfl, Nat.le_of_ble_eq_true rfl⟩) hS (fun q _ h => h) (fun q h => h) (fun s14 t H locs ht0 hvm hq hB hz1 hk1 hS => ?_)
        obtain ⟨hP, -, -⟩ := hB
        rw [ht0] at hP
        exact W.vret hx hb hr (fun t ht hW => ⟨⟨s14, rfl, hq, by rw [ht]; exact hP, va_K.moved hW.alike hK, hN.warm hW⟩, hS.F ht⟩) hS.2.2 d_MO_set_85
  have hq := hq.2 c1
  by_cases c15 : (gA σ 13 p1.toNatClampNeg) = 1
  · have hq := hq.1 c15
    refine lv_tableIn (tgt := 86) hx hb d_MO_set_6 (by rw [c15]; decide) (by rw [c15]; decide) (by rw [c15]; rfl) (by decide) ?_
    refine lv_aload_n hx hb d_MO_set_86 rfl (lv_at hl 0 rfl) ?_
    refine cw_get (C := R_MO) (T := F_MO) (N := 39) (v := .ref (am 23)) hx hb hts (in_MO _) hown hK hP 0 (by decide) rfl rfl 30 (by decide) (ht _ wC_712) rfl d_MO_set_87 ?_
    refine lv_iload_n hx hb d_MO_set_90 rfl (lv_at hl 1 rfl) ?_
    refine lv_aload_n hx hb d_MO_set_91 rfl (lv_at hl 0 rfl) ?_
    refine cw_get (C := R_MO) (T := F_MO) (N := 39) (v := .double (gX σ 0)) hx hb hts (in_MO _) hown hK hP 0 (by decide) rfl rfl 38 (by decide) (ht _ wC_720) rfl d_MO_set_92 ?_
    refine cw_dast hx hb hK hP hi hS 23 (by decide) rfl 1 rfl hq.1 mpd_4 d_MO_set_95 (fun H locs hP hS => ?_)
    have hq := hq.2
    obtain ⟨s16, e_s16⟩ : ∃ z, z = sD σ 4 (vf_upd (gD σ 4) p1.toNatClampNeg (gX σ 0)) := ⟨_, rfl⟩
    rw [← e_s16] at hP
    have hq := hq s16 e_s16
    refine lv_aload_n hx hb d_MO_set_96 rfl (lv_at hl 0 rfl) ?_
    refine cw_get (C := R_MO) (T := F_MO) (N := 39) (v := .ref (am 21)) hx hb hts (in_MO _) hown hK hP 0 (by decide) rfl rfl 28 (by decide) (ht _ wC_710) rfl d_MO_set_97 ?_
    refine lv_iload_n hx hb d_MO_set_100 rfl (lv_at hl 1 rfl) ?_
    refine lv_aload_n hx hb d_MO_set_101 rfl (lv_at hl 0 rfl) ?_
    refine cw_get (C := R_MO) (T := F_MO) (N := 39) (v := .ref (am 2)) hx hb hts (in_MO _) hown hK hP 0 (by decide) rfl rfl 1 (by decide) (ht _ wC_683) rfl d_MO_set_102 ?_
    refine lv_iload_n hx hb d_MO_set_105 rfl (lv_at hl 2 rfl) ?_
    refine cw_iald hx hb hK hP 2 (by decide) rfl 0 rfl hq.1 d_MO_set_106 ?_
    have hq := hq.2
    refine cw_iast hx hb hK hP hi hS 21 (by decide) rfl 0 rfl hq.1 mpa_16 d_MO_set_107 (fun H locs hP hS => ?_)
    have hq := hq.2
    obtain ⟨s17, e_s17⟩ : ∃ z, z = sA s16 16 (upd (gA s16 16) p1.toNatClampNeg (gA s16 1 p2.toNatClampNeg)) := ⟨_, rfl⟩
    rw [← e_s17] at hP
    have hq := hq s17 e_s17
    refine lv_aload_n hx hb d_MO_set_108 rfl (lv_at hl 0 rfl) ?_
    refine cw_get (C := R_MO) (T := F_MO) (N := 39) (v := .ref (am 22)) hx hb hts (in_MO _) hown hK hP 0 (by decide) rfl rfl 29 (by decide) (ht _ wC_711) rfl d_MO_set_109 ?_
    refine lv_iload_n hx hb d_MO_set_112 rfl (lv_at hl 1 rfl) ?_
    refine lv_aload_n hx hb d_MO_set_113 rfl (lv_at hl 0 rfl) ?_
    refine cw_get (C := R_MO) (T := F_MO) (N := 39) (v := .ref (am 17)) hx hb hts (in_MO _) hown hK hP 0 (by decide) rfl rfl 24 (by decide) (ht _ wC_706) rfl d_MO_set_114 ?_
    refine lv_iload_n hx hb d_MO_set_117 rfl (lv_at hl 1 rfl) ?_
    refine cw_iald hx hb hK hP 17 (by decide) rfl 0 rfl hq.1 d_MO_set_118 ?_
    have hq := hq.2
    refine cw_iast hx hb hK hP hi hS 22 (by decide) rfl 0 rfl hq.1 mpa_17 d_MO_set_119 (fun H locs hP hS => ?_)
    have hq := hq.2
    obtain ⟨s18, e_s18⟩ : ∃ z, z = sA s17 17 (upd (gA s17 17) p1.toNatClampNeg (gA s17 12 p1.toNatClampNeg)) := ⟨_, rfl⟩
    rw [← e_s18] at hP
    have hq := hq s18 e_s18
    refine lv_aload_n hx hb d_MO_set_120 rfl (lv_at hl 0 rfl) ?_
    refine lv_iload_n hx hb d_MO_set_121 rfl (lv_at hl 1 rfl) ?_
    refine va_callv (va_runV (As := [.int p1]) (rest := []) ⟨hx, hb, hml, hown, hts⟩ (c_MO_follow (D := D) (cs := cs) hi hq) (cwV 1 hts (good_V wC_895 wC_897 wC_36 wC_50 wC_898) rfl rfl rfl (by decide +kernel) ⟨(show 2 + 1 ≤ 3 by omega), (show 8 + (4 + 11) + 41 ≤ 64 by omega)⟩) ⟨mP_blind, va_recv hK hP (ci := 5) (q0 := 0) rfl (wd_at (by decide) rfl), fun U hU hW => ⟨rfl, by rw [hU]; exact hP, va_K.moved hW.alike hK, hN.warm hW⟩⟩ rfl rfl hl.1 rfl (lv_room (Nat.le_of_ble_eq_true rfl)) d_MO_set_122 ⟨Nat.le_of_ble_eq_true rfl, Nat.le_of_ble_eq_true rfl⟩) hS (fun q _ h => h) (fun q h => h) (fun s20 t H locs ht0 hvm hq hB hz1 hk1 hS => ?_)
    obtain ⟨hP, -, -⟩ := hB
    rw [ht0] at hP
    refine lv_aload_n hx hb d_MO_set_125 rfl (lv_at hl 0 rfl) ?_
    refine cw_get (C := R_MO) (T := F_MO) (N := 39) (v := .int (gI s20 10)) hx hb hts (in_MO _) hown hK hP 0 (by decide) rfl rfl 34 (by decide) (ht _ wC_716) rfl d_MO_set_126 ?_
    refine lv_if_le (tgt := 133) hx hb d_MO_set_129 (by decide) (fun c21 => ?_) (fun c21 => ?_)
    · have hq := hq.1 c21
      refine lv_aload_n hx hb d_MO_set_133 rfl (lv_at hl 0 rfl) ?_
      refine cw_get (C := R_MO) (T := F_MO) (N := 39) (v := .ref (am 1)) hx hb hts (in_MO _) hown hK hP 0 (by decide) rfl rfl 0 (by decide) (ht _ wC_682) rfl d_MO_set_134 ?_
      refine lv_aload_n hx hb d_MO_set_137 rfl (lv_at hl 0 rfl) ?_
      refine cw_get (C := R_MO) (T := F_MO) (N := 39) (v := .ref (am 21)) hx hb hts (in_MO _) hown hK hP 0 (by decide) rfl rfl 28 (by decide) (ht _ wC_710) rfl d_MO_set_138 ?_
      refine lv_iload_n hx hb d_MO_set_141 rfl (lv_at hl 1 rfl) ?_
      refine cw_iald hx hb hK hP 21 (by decide) rfl 0 rfl hq.1 d_MO_set_142 ?_
      have hq := hq.2
      refine cw_iald hx hb hK hP 1 (by decide) rfl 0 rfl hq.1 d_MO_set_143 ?_
      have hq := hq.2
      refine lv_iconst (v := 2) hx hb d_MO_set_144 (by decide) ?_
      refine lv_icmp_eq (tgt := 156) hx hb d_MO_set_145 (by decide) (fun c22 => ?_) (fun c22 => ?_)
      · have hq := hq.1 c22
        refine lv_aload_n hx hb d_MO_set_156 rfl (lv_at hl 0 rfl) ?_
        refine cw_get (C := R_MO) (T := F_MO) (N := 39) (v := .ref (am 18)) hx hb hts (in_MO _) hown hK hP 0 (by decide) rfl rfl 25 (by decide) (ht _ wC_707) rfl d_MO_set_157 ?_
        refine lv_iload_n hx hb d_MO_set_160 rfl (lv_at hl 1 rfl) ?_
        refine lv_iconst (v := 2) hx hb d_MO_set_161 (by decide) ?_
        refine cw_iast hx hb hK hP hi hS 18 (by decide) rfl 0 rfl hq.1 mpa_13 d_MO_set_162 (fun H locs hP hS => ?_)
        have hq := hq.2
        obtain ⟨s23, e_s23⟩ : ∃ z, z = sA s20 13 (upd (gA s20 13) p1.toNatClampNeg 2) := ⟨_, rfl⟩
        rw [← e_s23] at hP
        have hq := hq s23 e_s23
        refine lv_aload_n hx hb d_MO_set_163 rfl (lv_at hl 0 rfl) ?_
        refine lv_aload_n hx hb d_MO_set_164 rfl (lv_at hl 0 rfl) ?_
        refine cw_get (C := R_MO) (T := F_MO) (N := 39) (v := .ref (am 2)) hx hb hts (in_MO _) hown hK hP 0 (by decide) rfl rfl 1 (by decide) (ht _ wC_683) rfl d_MO_set_165 ?_
        refine lv_aload_n hx hb d_MO_set_168 rfl (lv_at hl 0 rfl) ?_
        refine cw_get (C := R_MO) (T := F_MO) (N := 39) (v := .ref (am 21)) hx hb hts (in_MO _) hown hK hP 0 (by decide) rfl rfl 28 (by decide) (ht _ wC_710) rfl d_MO_set_169 ?_
        refine lv_iload_n hx hb d_MO_set_172 rfl (lv_at hl 1 rfl) ?_
        refine cw_iald hx hb hK hP 21 (by decide) rfl 0 rfl hq.1 d_MO_set_173 ?_
        have hq := hq.2
        refine cw_iald hx hb hK hP 2 (by decide) rfl 0 rfl hq.1 d_MO_set_174 ?_
        have hq := hq.2
        refine lv_aload_n hx hb d_MO_set_175 rfl (lv_at hl 0 rfl) ?_
        refine cw_get (C := R_MO) (T := F_MO) (N := 39) (v := .ref (am 22)) hx hb hts (in_MO _) hown hK hP 0 (by decide) rfl rfl 29 (by decide) (ht _ wC_711) rfl d_MO_set_176 ?_
        refine lv_iload_n hx hb d_MO_set_179 rfl (lv_at hl 1 rfl) ?_
        refine cw_iald hx hb hK hP 22 (by decide) rfl 0 rfl hq.1 d_MO_set_180 ?_
        have hq := hq.2
        refine va_callv (va_runV (As := [.int (gA s23 1 ((gA s23 16 p1.toNatClampNeg).toNatClampNeg)), .int (gA s23 17 p1.toNatClampNeg)]) (rest := []) ⟨hx, hb, hml, hown, hts⟩ (c_MO_enter (D := D) (cs := cs) hi hq) (cwV 2 hts (good_V wC_851 wC_853 wC_26 wC_50 wC_854) rfl rfl rfl (by decide +kernel) ⟨(show 1 + 1 ≤ 3 by omega), (show 8 + (3 + 11) + 21 ≤ 64 by omega)⟩) ⟨mP_blind, va_recv hK hP (ci := 5) (q0 := 0) rfl (wd_at (by decide) rfl), fun U hU hW => ⟨rfl, by rw [hU]; exact hP, va_K.moved hW.alike hK, hN.warm hW⟩⟩ rfl rfl hl.1 rfl (lv_room (Nat.le_of_ble_eq_true rfl)) d_MO_set_181 ⟨Nat.le_of_ble_eq_true rfl, Nat.le_of_ble_eq_true rfl⟩) hS (fun q _ h => h) (fun q h => h) (fun s25 t H locs ht0 hvm hq hB hz1 hk1 hS => ?_)
        obtain ⟨hP, -, -⟩ := hB
        rw [ht0] at hP
        exact W.vret hx hb hr (fun t ht hW => ⟨⟨s25, rfl, hq, by rw [ht]; exact hP, va_K.moved hW.alike hK, hN.warm hW⟩, hS.F ht⟩) hS.2.2 d_MO_set_184
      · have hq := hq.2 c22
        refine lv_aload_n hx hb d_MO_set_148 rfl (lv_at hl 0 rfl) ?_
        refine lv_iload_n hx hb d_MO_set_149 rfl (lv_at hl 1 rfl) ?_
        refine va_callv (va_runV (As := [.int p1]) (rest := []) ⟨hx, hb, hml, hown, hts⟩ (c_MO_become (D := D) (cs := cs) hi hq) (cwV 1 hts (good_V wC_899 wC_901 wC_37 wC_50 wC_902) rfl rfl rfl (by decide +kernel) ⟨(show 1 + 1 ≤ 3 by omega), (show 8 + (7 + 11) + 25 ≤ 64 by omega)⟩) ⟨mP_blind, va_recv hK hP (ci := 5) (q0 := 0) rfl (wd_at (by decide) rfl), fun U hU hW => ⟨rfl, by rw [hU]; exact hP, va_K.moved hW.alike hK, hN.warm hW⟩⟩ rfl rfl hl.1 rfl (lv_room (Nat.le_of_ble_eq_true rfl)) d_MO_set_150 ⟨Nat.le_of_ble_eq_true rfl, Nat.le_of_ble_eq_true rfl⟩) hS (fun q _ h => h) (fun q h => h) (fun s27 t H locs ht0 hvm hq hB hz1 hk1 hS => ?_)
        obtain ⟨hP, -, -⟩ := hB
        rw [ht0] at hP
        refine lv_goto (tgt := 184) hx hb d_MO_set_153 (by decide) ?_
        exact W.vret hx hb hr (fun t ht hW => ⟨⟨s27, rfl, hq, by rw [ht]; exact hP, va_K.moved hW.alike hK, hN.warm hW⟩, hS.F ht⟩) hS.2.2 d_MO_set_184
    · have hq := hq.2 c21
      exact W.vret hx hb hr (fun t ht hW => ⟨⟨s20, rfl, hq, by rw [ht]; exact hP, va_K.moved hW.alike hK, hN.warm hW⟩, hS.F ht⟩) hS.2.2 d_MO_set_132
  have hq := hq.2 c15
  by_cases c28 : (gA σ 13 p1.toNatClampNeg) = 2
  · have hq := hq.1 c28
    refine lv_tableIn (tgt := 185) hx hb d_MO_set_6 (by rw [c28]; decide) (by rw [c28]; decide) (by rw [c28]; rfl) (by decide) ?_
    refine lv_aload_n hx hb d_MO_set_185 rfl (lv_at hl 0 rfl) ?_
    refine cw_get (C := R_MO) (T := F_MO) (N := 39) (v := .ref (am 24)) hx hb hts (in_MO _) hown hK hP 0 (by decide) rfl rfl 31 (by decide) (ht _ wC_713) rfl d_MO_set_186 ?_
    refine lv_iload_n hx hb d_MO_set_189 rfl (lv_at hl 1 rfl) ?_
    refine lv_aload_n hx hb d_MO_set_190 rfl (lv_at hl 0 rfl) ?_
    refine cw_get (C := R_MO) (T := F_MO) (N := 39) (v := .double (gX σ 0)) hx hb hts (in_MO _) hown hK hP 0 (by decide) rfl rfl 38 (by decide) (ht _ wC_720) rfl d_MO_set_191 ?_
    refine cw_dast hx hb hK hP hi hS 24 (by decide) rfl 1 rfl hq.1 mpd_5 d_MO_set_194 (fun H locs hP hS => ?_)
    have hq := hq.2
    obtain ⟨s29, e_s29⟩ : ∃ z, z = sD σ 5 (vf_upd (gD σ 5) p1.toNatClampNeg (gX σ 0)) := ⟨_, rfl⟩
    rw [← e_s29] at hP
    have hq := hq s29 e_s29
    refine lv_aload_n hx hb d_MO_set_195 rfl (lv_at hl 0 rfl) ?_
    refine cw_get (C := R_MO) (T := F_MO) (N := 39) (v := .ref (am 18)) hx hb hts (in_MO _) hown hK hP 0 (by decide) rfl rfl 25 (by decide) (ht _ wC_707) rfl d_MO_set_196 ?_
    refine lv_iload_n hx hb d_MO_set_199 rfl (lv_at hl 1 rfl) ?_
    refine lv_iconst (v := 3) hx hb d_MO_set_200 (by decide) ?_
    refine cw_iast hx hb hK hP hi hS 18 (by decide) rfl 0 rfl hq.1 mpa_13 d_MO_set_201 (fun H locs hP hS => ?_)
    have hq := hq.2
    obtain ⟨s30, e_s30⟩ : ∃ z, z = sA s29 13 (upd (gA s29 13) p1.toNatClampNeg 3) := ⟨_, rfl⟩
    rw [← e_s30] at hP
    have hq := hq s30 e_s30
    refine lv_aload_n hx hb d_MO_set_202 rfl (lv_at hl 0 rfl) ?_
    refine lv_aload_n hx hb d_MO_set_203 rfl (lv_at hl 0 rfl) ?_
    refine cw_get (C := R_MO) (T := F_MO) (N := 39) (v := .ref (am 3)) hx hb hts (in_MO _) hown hK hP 0 (by decide) rfl rfl 2 (by decide) (ht _ wC_684) rfl d_MO_set_204 ?_
    refine lv_aload_n hx hb d_MO_set_207 rfl (lv_at hl 0 rfl) ?_
    refine cw_get (C := R_MO) (T := F_MO) (N := 39) (v := .ref (am 21)) hx hb hts (in_MO _) hown hK hP 0 (by decide) rfl rfl 28 (by decide) (ht _ wC_710) rfl d_MO_set_208 ?_
    refine lv_iload_n hx hb d_MO_set_211 rfl (lv_at hl 1 rfl) ?_
    refine cw_iald hx hb hK hP 21 (by decide) rfl 0 rfl hq.1 d_MO_set_212 ?_
    have hq := hq.2
    refine cw_iald hx hb hK hP 3 (by decide) rfl 0 rfl hq.1 d_MO_set_213 ?_
    have hq := hq.2
    refine lv_aload_n hx hb d_MO_set_214 rfl (lv_at hl 0 rfl) ?_
    refine cw_get (C := R_MO) (T := F_MO) (N := 39) (v := .ref (am 22)) hx hb hts (in_MO _) hown hK hP 0 (by decide) rfl rfl 29 (by decide) (ht _ wC_711) rfl d_MO_set_215 ?_
    refine lv_iload_n hx hb d_MO_set_218 rfl (lv_at hl 1 rfl) ?_
    refine cw_iald hx hb hK hP 22 (by decide) rfl 0 rfl hq.1 d_MO_set_219 ?_
    have hq := hq.2
    refine va_callv (va_runV (As := [.int (gA s30 2 ((gA s30 16 p1.toNatClampNeg).toNatClampNeg)), .int (gA s30 17 p1.toNatClampNeg)]) (rest := []) ⟨hx, hb, hml, hown, hts⟩ (c_MO_enter (D := D) (cs := cs) hi hq) (cwV 2 hts (good_V wC_851 wC_853 wC_26 wC_50 wC_854) rfl rfl rfl (by decide +kernel) ⟨(show 1 + 1 ≤ 3 by omega), (show 8 + (3 + 11) + 21 ≤ 64 by omega)⟩) ⟨mP_blind, va_recv hK hP (ci := 5) (q0 := 0) rfl (wd_at (by decide) rfl), fun U hU hW => ⟨rfl, by rw [hU]; exact hP, va_K.moved hW.alike hK, hN.warm hW⟩⟩ rfl rfl hl.1 rfl (lv_room (Nat.le_of_ble_eq_true rfl)) d_MO_set_220 ⟨Nat.le_of_ble_eq_true rfl, Nat.le_of_ble_eq_true rfl⟩) hS (fun q _ h => h) (fun q h => h) (fun s32 t H locs ht0 hvm hq hB hz1 hk1 hS => ?_)
    obtain ⟨hP, -, -⟩ := hB
    rw [ht0] at hP
    exact W.vret hx hb hr (fun t ht hW => ⟨⟨s32, rfl, hq, by rw [ht]; exact hP, va_K.moved hW.alike hK, hN.warm hW⟩, hS.F ht⟩) hS.2.2 d_MO_set_223
  have hq := hq.2 c28
  refine cw_tabD (tgt := 224) hx hb d_MO_set_6 (by decide) ?_ ?_
  · have e_c1 := lv_neT c1 (a := 0) rfl; have e_c15 := lv_neT c15 (a := 1) rfl; have e_c28 := lv_neT c28 (a := 2) rfl
    have g3 : (gA σ 13 p1.toNatClampNeg).toInt < 0 ∨ 2 < (gA σ 13 p1.toNatClampNeg).toInt := by omega
    exact g3.elim Or.inl (fun g => Or.inr (Or.inl g))
  refine lv_aload_n hx hb d_MO_set_224 rfl (lv_at hl 0 rfl) ?_
  refine lv_aload_n hx hb d_MO_set_225 rfl (lv_at hl 0 rfl) ?_
  refine cw_get (C := R_MO) (T := F_MO) (N := 39) (v := .ref (am 24)) hx hb hts (in_MO _) hown hK hP 0 (by decide) rfl rfl 31 (by decide) (ht _ wC_713) rfl d_MO_set_226 ?_
  refine lv_iload_n hx hb d_MO_set_229 rfl (lv_at hl 1 rfl) ?_
  refine cw_dald hx hb hK hP 24 (by decide) rfl 1 rfl hq.1 d_MO_set_230 ?_
  have hq := hq.2
  refine va_calld (va_runS (As := [.double (gD σ 5 p1.toNatClampNeg)]) (rest := [.ref (am 0)]) ⟨hx, hb, hml, hown, hts⟩ (c_MO_round (D := D) (cs := cs) hi hq) (va_cwS 1 hts (good_S wC_843 wC_844 wC_50 wC_845) rfl rfl rfl (by decide +kernel) ⟨(show 0 + 1 ≤ 3 by omega), (show 8 + (6 + 11) + 0 ≤ 64 by omega)⟩) ⟨mP_blind, fun U hU hW => ⟨rfl, by rw [hU]; exact hP, va_K.moved hW.alike hK, hN.warm hW⟩⟩ rfl rfl hl.1 rfl (lv_room (Nat.le_of_ble_eq_true rfl)) d_MO_set_231 ⟨Nat.le_of_ble_eq_true rfl, Nat.le_of_ble_eq_true rfl⟩) hS (fun q _ h => h) (fun q h => h) (fun r33 s34 t H locs ht0 hvm hq hB hz1 hk1 hS => ?_)
  obtain ⟨hP, -, -⟩ := hB
  rw [ht0] at hP
  refine lv_aload_n hx hb d_MO_set_234 rfl (lv_at hl 0 rfl) ?_
  refine cw_get (C := R_MO) (T := F_MO) (N := 39) (v := .double (gX s34 0)) hx hb hts (in_MO _) hown hK hP 0 (by decide) rfl rfl 38 (by decide) (ht _ wC_720) rfl d_MO_set_235 ?_
  refine va_calld (va_runS (As := [.double (gX s34 0)]) (rest := [.double r33, .ref (am 0)]) ⟨hx, hb, hml, hown, hts⟩ (c_MO_round (D := D) (cs := cs) hi hq) (va_cwS 1 hts (good_S wC_843 wC_844 wC_50 wC_845) rfl rfl rfl (by decide +kernel) ⟨(show 0 + 1 ≤ 3 by omega), (show 8 + (6 + 11) + 0 ≤ 64 by omega)⟩) ⟨mP_blind, fun U hU hW => ⟨rfl, by rw [hU]; exact hP, va_K.moved hW.alike hK, hN.warm hW⟩⟩ rfl rfl hl.1 rfl (lv_room (Nat.le_of_ble_eq_true rfl)) d_MO_set_238 ⟨Nat.le_of_ble_eq_true rfl, Nat.le_of_ble_eq_true rfl⟩) hS (fun q _ h => h) (fun q h => h) (fun r35 s36 t H locs ht0 hvm hq hB hz1 hk1 hS => ?_)
  obtain ⟨hP, -, -⟩ := hB
  rw [ht0] at hP
  refine va_calli (va_runV (As := [.double r33, .double r35]) (rest := []) ⟨hx, hb, hml, hown, hts⟩ (c_MO_place (D := D) (cs := cs) hi hq) (cwV 2 hts (good_V wC_903 wC_905 wC_38 wC_50 wC_906) rfl rfl rfl (by decide +kernel) ⟨(show 0 + 1 ≤ 3 by omega), (show 8 + (5 + 11) + 0 ≤ 64 by omega)⟩) ⟨mP_blind, va_recv hK hP (ci := 5) (q0 := 0) rfl (wd_at (by decide) rfl), fun U hU hW => ⟨rfl, by rw [hU]; exact hP, va_K.moved hW.alike hK, hN.warm hW⟩⟩ rfl rfl hl.1 rfl (lv_room (Nat.le_of_ble_eq_true rfl)) d_MO_set_241 ⟨Nat.le_of_ble_eq_true rfl, Nat.le_of_ble_eq_true rfl⟩) hS (fun q _ h => h) (fun q h => h) (fun r37 s38 t H locs ht0 hvm hq hB hz1 hk1 hS => ?_)
  obtain ⟨hP, -, -⟩ := hB
  rw [ht0] at hP
  refine lv_istore_n (lv' := [(3, .int r37), (0, .ref (am 0)), (1, .int p1), (2, .int p2)]) hx hb d_MO_set_244 rfl hl (by decide) rfl (fun ls hl => ?_)
  refine lv_iload_n hx hb d_MO_set_245 rfl (lv_at hl 0 rfl) ?_
  refine lv_if_ge (tgt := 257) hx hb d_MO_set_246 (by decide) (fun c39 => ?_) (fun c39 => ?_)
  · have hq := hq.1 c39
    refine lv_aload_n hx hb d_MO_set_257 rfl (lv_at hl 1 rfl) ?_
    refine cw_get (C := R_MO) (T := F_MO) (N := 39) (v := .ref (am 23)) hx hb hts (in_MO _) hown hK hP 0 (by decide) rfl rfl 30 (by decide) (ht _ wC_712) rfl d_MO_set_258 ?_
    refine lv_iload_n hx hb d_MO_set_261 rfl (lv_at hl 2 rfl) ?_
    refine cw_dald hx hb hK hP 23 (by decide) rfl 1 rfl hq.1 d_MO_set_262 ?_
    have hq := hq.2
    refine va_calli (va_runS (As := [.double (gD s38 4 p1.toNatClampNeg)]) (rest := []) ⟨hx, hb, hml, hown, hts⟩ (c_MO_isGood (D := D) (cs := cs) hi hq) (va_cwS 1 hts (good_S wC_838 wC_839 wC_50 wC_840) rfl rfl rfl (by decide +kernel) ⟨(show 0 + 1 ≤ 3 by omega), (show 8 + (2 + 11) + 0 ≤ 64 by omega)⟩) ⟨mP_blind, fun U hU hW => ⟨rfl, by rw [hU]; exact hP, va_K.moved hW.alike hK, hN.warm hW⟩⟩ rfl rfl hl.1 rfl (lv_room (Nat.le_of_ble_eq_true rfl)) d_MO_set_263 ⟨Nat.le_of_ble_eq_true rfl, Nat.le_of_ble_eq_true rfl⟩) hS (fun q _ h => h) (fun q h => h) (fun r40 s41 t H locs ht0 hvm hq hB hz1 hk1 hS => ?_)
    obtain ⟨hP, -, -⟩ := hB
    rw [ht0] at hP
    refine lv_if_ne (tgt := 277) hx hb d_MO_set_266 (by decide) (fun c42 => ?_) (fun c42 => ?_)
    · have hq := hq.2 c42
      refine lv_aload_n hx hb d_MO_set_277 rfl (lv_at hl 1 rfl) ?_
      refine cw_get (C := R_MO) (T := F_MO) (N := 39) (v := .ref (am 9)) hx hb hts (in_MO _) hown hK hP 0 (by decide) rfl rfl 8 (by decide) (ht _ wC_690) rfl d_MO_set_278 ?_
      refine lv_iload_n hx hb d_MO_set_281 rfl (lv_at hl 0 rfl) ?_
      refine lv_aload_n hx hb d_MO_set_282 rfl (lv_at hl 1 rfl) ?_
      refine cw_get (C := R_MO) (T := F_MO) (N := 39) (v := .ref (am 23)) hx hb hts (in_MO _) hown hK hP 0 (by decide) rfl rfl 30 (by decide) (ht _ wC_712) rfl d_MO_set_283 ?_
      refine lv_iload_n hx hb d_MO_set_286 rfl (lv_at hl 2 rfl) ?_
      refine cw_dald hx hb hK hP 23 (by decide) rfl 1 rfl hq.1 d_MO_set_287 ?_
      have hq := hq.2
      refine cw_dast hx hb hK hP hi hS 9 (by decide) rfl 1 rfl hq.1 mpd_1 d_MO_set_288 (fun H locs hP hS => ?_)
      have hq := hq.2
      obtain ⟨s43, e_s43⟩ : ∃ z, z = sD s41 1 (vf_upd (gD s41 1) r37.toNatClampNeg (gD s41 4 p1.toNatClampNeg)) := ⟨_, rfl⟩
      rw [← e_s43] at hP
      have hq := hq s43 e_s43
      refine lv_aload_n hx hb d_MO_set_289 rfl (lv_at hl 1 rfl) ?_
      refine lv_aload_n hx hb d_MO_set_290 rfl (lv_at hl 1 rfl) ?_
      refine cw_get (C := R_MO) (T := F_MO) (N := 39) (v := .ref (am 23)) hx hb hts (in_MO _) hown hK hP 0 (by decide) rfl rfl 30 (by decide) (ht _ wC_712) rfl d_MO_set_291 ?_
      refine lv_iload_n hx hb d_MO_set_294 rfl (lv_at hl 2 rfl) ?_
      refine cw_dald hx hb hK hP 23 (by decide) rfl 1 rfl hq.1 d_MO_set_295 ?_
      have hq := hq.2
      refine va_callv (va_runV (As := [.double (gD s43 4 p1.toNatClampNeg)]) (rest := []) ⟨hx, hb, hml, hown, hts⟩ (c_MO_end (D := D) (cs := cs) hi hq) (cwV 1 hts (good_V wC_864 wC_866 wC_29 wC_50 wC_867) rfl rfl rfl (by decide +kernel) ⟨(show 0 + 1 ≤ 3 by omega), (show 8 + (3 + 11) + 0 ≤ 64 by omega)⟩) ⟨mP_blind, va_recv hK hP (ci := 5) (q0 := 0) rfl (wd_at (by decide) rfl), fun U hU hW => ⟨rfl, by rw [hU]; exact hP, va_K.moved hW.alike hK, hN.warm hW⟩⟩ rfl rfl hl.1 rfl (lv_room (Nat.le_of_ble_eq_true rfl)) d_MO_set_296 ⟨Nat.le_of_ble_eq_true rfl, Nat.le_of_ble_eq_true rfl⟩) hS (fun q _ h => h) (fun q h => h) (fun s45 t H locs ht0 hvm hq hB hz1 hk1 hS => ?_)
      obtain ⟨hP, -, -⟩ := hB
      rw [ht0] at hP
      exact W.vret hx hb hr (fun t ht hW => ⟨⟨s45, rfl, hq, by rw [ht]; exact hP, va_K.moved hW.alike hK, hN.warm hW⟩, hS.F ht⟩) hS.2.2 d_MO_set_299
    · have hq := hq.1 c42
      refine lv_aload_n hx hb d_MO_set_269 rfl (lv_at hl 1 rfl) ?_
      refine lv_iconst (v := 2) hx hb d_MO_set_270 (by decide) ?_
      refine va_callv (va_runV (As := [.int 2]) (rest := []) ⟨hx, hb, hml, hown, hts⟩ (c_MO_wrong (D := D) (cs := cs) hi hq) (cwV 1 hts (good_V wC_855 wC_857 wC_27 wC_50 wC_858) rfl rfl rfl (by decide +kernel) ⟨(show 0 + 1 ≤ 3 by omega), (show 8 + (2 + 11) + 0 ≤ 64 by omega)⟩) ⟨mP_blind, va_recv hK hP (ci := 5) (q0 := 0) rfl (wd_at (by decide) rfl), fun U hU hW => ⟨rfl, by rw [hU]; exact hP, va_K.moved hW.alike hK, hN.warm hW⟩⟩ rfl rfl hl.1 rfl (lv_room (Nat.le_of_ble_eq_true rfl)) d_MO_set_271 ⟨Nat.le_of_ble_eq_true rfl, Nat.le_of_ble_eq_true rfl⟩) hS (fun q _ h => h) (fun q h => h) (fun s47 t H locs ht0 hvm hq hB hz1 hk1 hS => ?_)
      obtain ⟨hP, -, -⟩ := hB
      rw [ht0] at hP
      refine lv_goto (tgt := 299) hx hb d_MO_set_274 (by decide) ?_
      exact W.vret hx hb hr (fun t ht hW => ⟨⟨s47, rfl, hq, by rw [ht]; exact hP, va_K.moved hW.alike hK, hN.warm hW⟩, hS.F ht⟩) hS.2.2 d_MO_set_299
  · have hq := hq.2 c39
    refine lv_aload_n hx hb d_MO_set_249 rfl (lv_at hl 1 rfl) ?_
    refine lv_iconst (v := 3) hx hb d_MO_set_250 (by decide) ?_
    refine va_callv (va_runV (As := [.int 3]) (rest := []) ⟨hx, hb, hml, hown, hts⟩ (c_MO_wrong (D := D) (cs := cs) hi hq) (cwV 1 hts (good_V wC_855 wC_857 wC_27 wC_50 wC_858) rfl rfl rfl (by decide +kernel) ⟨(show 0 + 1 ≤ 3 by omega), (show 8 + (2 + 11) + 0 ≤ 64 by omega)⟩) ⟨mP_blind, va_recv hK hP (ci := 5) (q0 := 0) rfl (wd_at (by decide) rfl), fun U hU hW => ⟨rfl, by rw [hU]; exact hP, va_K.moved hW.alike hK, hN.warm hW⟩⟩ rfl rfl hl.1 rfl (lv_room (Nat.le_of_ble_eq_true rfl)) d_MO_set_251 ⟨Nat.le_of_ble_eq_true rfl, Nat.le_of_ble_eq_true rfl⟩) hS (fun q _ h => h) (fun q h => h) (fun s49 t H locs ht0 hvm hq hB hz1 hk1 hS => ?_)
    obtain ⟨hP, -, -⟩ := hB
    rw [ht0] at hP
    refine lv_goto (tgt := 299) hx hb d_MO_set_254 (by decide) ?_
    exact W.vret hx hb hr (fun t ht hW => ⟨⟨s49, rfl, hq, by rw [ht]; exact hP, va_K.moved hW.alike hK, hN.warm hW⟩, hS.F ht⟩) hS.2.2 d_MO_set_299
def lp_MO_jump_7 (p1 : Int32) (Q : CS → Prop) : Nat → Int32 → CS → Prop
  | 0 => fun _ _ => False
  | k + 1 => fun x2 σ => ((x2 < 0 → ((0 ≤ x2 → (∀ s3 : CS, s3 = sI σ 13 ((gI σ 13) + 1) → (∀ s4 : CS, s4 = sI s3 8 (x2 + 1) → (wp_MO_end FP.dconst0 s4 (fun s6 => Q s6))))) ∧ (¬ 0 ≤ x2 → (wp_MO_wrong 5 σ (fun s8 => Q s8))))) ∧ (¬ x2 < 0 → (vp_in x2 310 ∧ (vp_in (gA σ 11 x2.toNatClampNeg) 48 ∧ (((gA σ 0 ((gA σ 11 x2.toNatClampNeg).toNatClampNeg)) = 17 → (vp_in x2 310 ∧ (vp_in (gA σ 11 x2.toNatClampNeg) 48 ∧ (((gA σ 1 ((gA σ 11 x2.toNatClampNeg).toNatClampNeg)) = p1 → ((0 ≤ x2 → (∀ s12 : CS, s12 = sI σ 13 ((gI σ 13) + 1) → (∀ s13 : CS, s13 = sI s12 8 (x2 + 1) → (wp_MO_end FP.dconst0 s13 (fun s15 => Q s15))))) ∧ (¬ 0 ≤ x2 → (wp_MO_wrong 5 σ (fun s17 => Q s17))))) ∧ (¬ (gA σ 1 ((gA σ 11 x2.toNatClampNeg).toNatClampNeg)) = p1 → lp_MO_jump_7 p1 Q k (x2 + (-1)) σ))))) ∧ (¬ (gA σ 0 ((gA σ 11 x2.toNatClampNeg).toNatClampNeg)) = 17 → lp_MO_jump_7 p1 Q k (x2 + (-1)) σ))))))
def wp_MO_jump (p1 : Int32) (σ : CS) (Q : CS → Prop) : Prop := (∃ fu : Nat, lp_MO_jump_7 p1 Q fu ((gI σ 8) - 1) σ)
set_option maxHeartbeats 4000000 in
set_option maxRecDepth 100000 in
theorem c_MO_jump {l : Launch} {D : va_G} {cs : CI} {am : Nat → Nat} (hi : aI am 25) {p1 : Int32} {σ : CS} {Q : CS → Prop} (hq : wp_MO_jump p1 σ Q) : Met l y_MO_jump (.code y_MO_jump b_MO_jump 3 none :: wC) ({ frames := 1, cells := 0, slots := 0, locals := 22 }) (va_Pc [.ref (am 0), .int p1] (mP D cs am σ)) (va_Qv Q (mP D cs am) (aK am 25)) 0 0 (aK am 25) := by
  refine Met.ofW (cc := b_MO_jump) (maxL := 3) (ret := none) (by decide) rfl ?_
  intro p e s m args below meth c s₁ B hml hv
  obtain ⟨rfl, hP, hK, hN⟩ := hv
  have hx := B.exec
  have hb := B.bytes
  have hr := B.returns
  have hts := atoms_spec (ws := .code y_MO_jump b_MO_jump 3 none :: wC) B.pre
  have ht : ∀ w ∈ wC, w.before _ s = true := fun w h => hts w (List.mem_cons_of_mem _ h)
  have hown : s.vm.findClass R_MO = some m.cls := findClass_of_methodNamed B.named
  have hlocks := B.notSynchronized
  have hS : va_S (aK am 25) s.heap s.heap [] := va_S.rf
  have hl := lv_entry ([.ref (am 0), .int p1]) (n := 3) (Nat.le_of_ble_eq_true rfl)
  rw [lg_entry_eq]
  generalize (lg_sl ([.ref (am 0), .int p1]) ++ List.replicate (3 - (lg_sl ([.ref (am 0), .int p1])).length) Slot.unset).toArray = ls at hl ⊢
  have hl : lv_has ls 3 [(0, .ref (am 0)), (1, .int p1)] := hl
  unfold wp_MO_jump at hq
  have hh8 : 8 < 9 := by decide
  have loop_7 : ∀ (k : Nat) (x2 : Int32) (σ : CS) (H : Heap) (locs : List Loc) (ls : Array Slot), lp_MO_jump_7 p1 Q k x2 σ → va_P D clA (wd am (contM am cs σ) 25) H → va_S (aK am 25) s.heap H locs → lv_has ls 3 [(2, .int x2), (0, .ref (am 0)), (1, .int p1)] → W p l e (headSpec (.code y_MO_jump b_MO_jump 3 none :: wC) ({ frames := 1, cells := 0, slots := 0, locals := 22 })).room s m ([.ref (am 0), .int p1] : List Value).toArray below meth c H locs 0 0 (MQ below (va_Qv Q (mP D cs am) (aK am 25)) ([.ref (am 0), .int p1] : List Value).toArray s 0 0 (aK am 25)) (F0 m 7 ls []) := by
    intro k
    induction k with
    | zero => intro x2 σ H locs ls hq; exact hq.elim
    | succ k ih =>
      intro x2 σ H locs ls hq hP hS hl
      unfold lp_MO_jump_7 at hq
      refine lv_iload_n hx hb d_MO_jump_7 rfl (lv_at hl 0 rfl) ?_
      refine lv_if_lt (tgt := 48) hx hb d_MO_jump_8 (by decide) (fun c1 => ?_) (fun c1 => ?_)
      · have hq := hq.1 c1
        refine lv_iload_n hx hb d_MO_jump_48 rfl (lv_at hl 0 rfl) ?_
        refine lv_if_ge (tgt := 58) hx hb d_MO_jump_49 (by decide) (fun c2 => ?_) (fun c2 => ?_)
        · have hq := hq.1 c2
          refine lv_aload_n hx hb d_MO_jump_58 rfl (lv_at hl 1 rfl) ?_
          refine lv_dup hx hb d_MO_jump_59 rfl ?_
          refine cw_get (C := R_MO) (T := F_MO) (N := 39) (v := .int (gI σ 13)) hx hb hts (in_MO _) hown hK hP 0 (by decide) rfl rfl 37 (by decide) (ht _ wC_719) rfl d_MO_jump_60 ?_
          refine lv_iconst (v := 1) hx hb d_MO_jump_63 (by decide) ?_
          refine lv_iadd hx hb d_MO_jump_64 ?_
          refine cw_put (C := R_MO) (T := F_MO) (N := 39) (ty := .int) (v := .int ((gI σ 13) + 1)) hx hb hts (in_MO _) t_MO tok_MO n_MO hown hK hP hi hS 0 (by decide) rfl rfl 37 (by decide) (ht _ wC_719) rfl (by decide +kernel) rfl rfl (Nat.le_of_ble_eq_true rfl) up_MO_jumps d_MO_jump_65 (fun H locs hP hS => ?_)
          obtain ⟨s3, e_s3⟩ : ∃ z, z = sI σ 13 ((gI σ 13) + 1) := ⟨_, rfl⟩
          rw [← e_s3] at hP
          have hq := hq s3 e_s3
          refine lv_aload_n hx hb d_MO_jump_68 rfl (lv_at hl 1 rfl) ?_
          refine lv_iload_n hx hb d_MO_jump_69 rfl (lv_at hl 0 rfl) ?_
          refine lv_iconst (v := 1) hx hb d_MO_jump_70 (by decide) ?_
          refine lv_iadd hx hb d_MO_jump_71 ?_
          refine cw_put (C := R_MO) (T := F_MO) (N := 39) (ty := .int) (v := .int (x2 + 1)) hx hb hts (in_MO _) t_MO tok_MO n_MO hown hK hP hi hS 0 (by decide) rfl rfl 32 (by decide) (ht _ wC_714) rfl (by decide +kernel) rfl rfl (Nat.le_of_ble_eq_true rfl) up_MO_top d_MO_jump_72 (fun H locs hP hS => ?_)
          obtain ⟨s4, e_s4⟩ : ∃ z, z = sI s3 8 (x2 + 1) := ⟨_, rfl⟩
          rw [← e_s4] at hP
          have hq := hq s4 e_s4
          refine lv_aload_n hx hb d_MO_jump_75 rfl (lv_at hl 1 rfl) ?_
          refine lv_dconst0 hx hb d_MO_jump_76 ?_
          refine va_callv (va_runV (As := [.double FP.dconst0]) (rest := []) ⟨hx, hb, hml, hown, hts⟩ (c_MO_end (D := D) (cs := cs) hi hq) (cwV 1 hts (good_V wC_864 wC_866 wC_29 wC_50 wC_867) rfl rfl rfl (by decide +kernel) ⟨(show 0 + 1 ≤ 1 by omega), (show 8 + (3 + 11) + 0 ≤ 22 by omega)⟩) ⟨mP_blind, va_recv hK hP (ci := 5) (q0 := 0) rfl (wd_at (by decide) rfl), fun U hU hW => ⟨rfl, by rw [hU]; exact hP, va_K.moved hW.alike hK, hN.warm hW⟩⟩ rfl rfl hl.1 rfl (lv_room (Nat.le_of_ble_eq_true rfl)) d_MO_jump_77 ⟨Nat.le_of_ble_eq_true rfl, Nat.le_of_ble_eq_true rfl⟩) hS (fun q _ h => h) (fun q h => h) (fun s6 t H locs ht0 hvm hq hB hz1 hk1 hS => ?_)
          obtain ⟨hP, -, -⟩ := hB
          rw [ht0] at hP
          exact W.vret hx hb hr (fun t ht hW => ⟨⟨s6, rfl, hq, by rw [ht]; exact hP, va_K.moved hW.alike hK, hN.warm hW⟩, hS.F ht⟩) hS.2.2 d_MO_jump_80
        · have hq := hq.2 c2
          refine lv_aload_n hx hb d_MO_jump_52 rfl (lv_at hl 1 rfl) ?_
          refine lv_iconst (v := 5) hx hb d_MO_jump_53 (by decide) ?_
          refine va_callv (va_runV (As := [.int 5]) (rest := []) ⟨hx, hb, hml, hown, hts⟩ (c_MO_wrong (D := D) (cs := cs) hi hq) (cwV 1 hts (good_V wC_855 wC_857 wC_27 wC_50 wC_858) rfl rfl rfl (by decide +kernel) ⟨(show 0 + 1 ≤ 1 by omega), (show 8 + (2 + 11) + 0 ≤ 22 by omega)⟩) ⟨mP_blind, va_recv hK hP (ci := 5) (q0 := 0) rfl (wd_at (by decide) rfl), fun U hU hW => ⟨rfl, by rw [hU]; exact hP, va_K.moved hW.alike hK, hN.warm hW⟩⟩ rfl rfl hl.1 rfl (lv_room (Nat.le_of_ble_eq_true rfl)) d_MO_jump_54 ⟨Nat.le_of_ble_eq_true rfl, Nat.le_of_ble_eq_true rfl⟩) hS (fun q _ h => h) (fun q h => h) (fun s8 t H locs ht0 hvm hq hB hz1 hk1 hS => ?_)
          obtain ⟨hP, -, -⟩ := hB
          rw [ht0] at hP
          exact W.vret hx hb hr (fun t ht hW => ⟨⟨s8, rfl, hq, by rw [ht]; exact hP, va_K.moved hW.alike hK, hN.warm hW⟩, hS.F ht⟩) hS.2.2 d_MO_jump_57
      · have hq := hq.2 c1
        refine lv_aload_n hx hb d_MO_jump_11 rfl (lv_at hl 1 rfl) ?_
        refine cw_get (C := R_MO) (T := F_MO) (N := 39) (v := .ref (am 1)) hx hb hts (in_MO _) hown hK hP 0 (by decide) rfl rfl 0 (by decide) (ht _ wC_682) rfl d_MO_jump_12 ?_
        refine lv_aload_n hx hb d_MO_jump_15 rfl (lv_at hl 1 rfl) ?_
        refine cw_get (C := R_MO) (T := F_MO) (N := 39) (v := .ref (am 16)) hx hb hts (in_MO _) hown hK hP 0 (by decide) rfl rfl 23 (by decide) (ht _ wC_705) rfl d_MO_jump_16 ?_
        refine lv_iload_n hx hb d_MO_jump_19 rfl (lv_at hl 0 rfl) ?_
        refine cw_iald hx hb hK hP 16 (by decide) rfl 0 rfl hq.1 d_MO_jump_20 ?_
        have hq := hq.2
        refine cw_iald hx hb hK hP 1 (by decide) rfl 0 rfl hq.1 d_MO_jump_21 ?_
        have hq := hq.2
        refine lv_bipush (v := 17) hx hb d_MO_jump_22 (by decide) ?_
        refine lv_icmp_ne (tgt := 42) hx hb d_MO_jump_24 (by decide) (fun c9 => ?_) (fun c9 => ?_)
        · have hq := hq.2 c9
          refine lv_iinc (v := x2 + (-1)) (lv' := [(2, .int (x2 + (-1))), (0, .ref (am 0)), (1, .int p1)]) hx hb d_MO_jump_42 hl (k := 0) rfl rfl (by decide) rfl (fun ls hl => ?_)
          refine lv_goto (tgt := 7) hx hb d_MO_jump_45 (by decide) ?_
          exact ih (x2 + (-1)) σ _ _ ls hq hP hS (lv_sub hl [0, 1, 2] rfl)
        · have hq := hq.1 c9
          refine lv_aload_n hx hb d_MO_jump_27 rfl (lv_at hl 1 rfl) ?_
          refine cw_get (C := R_MO) (T := F_MO) (N := 39) (v := .ref (am 2)) hx hb hts (in_MO _) hown hK hP 0 (by decide) rfl rfl 1 (by decide) (ht _ wC_683) rfl d_MO_jump_28 ?_
          refine lv_aload_n hx hb d_MO_jump_31 rfl (lv_at hl 1 rfl) ?_
          refine cw_get (C := R_MO) (T := F_MO) (N := 39) (v := .ref (am 16)) hx hb hts (in_MO _) hown hK hP 0 (by decide) rfl rfl 23 (by decide) (ht _ wC_705) rfl d_MO_jump_32 ?_
          refine lv_iload_n hx hb d_MO_jump_35 rfl (lv_at hl 0 rfl) ?_
          refine cw_iald hx hb hK hP 16 (by decide) rfl 0 rfl hq.1 d_MO_jump_36 ?_
          have hq := hq.2
          refine cw_iald hx hb hK hP 2 (by decide) rfl 0 rfl hq.1 d_MO_jump_37 ?_
          have hq := hq.2
          refine lv_iload_n hx hb d_MO_jump_38 rfl (lv_at hl 2 rfl) ?_
          refine lv_icmp_eq (tgt := 48) hx hb d_MO_jump_39 (by decide) (fun c10 => ?_) (fun c10 => ?_)
          · have hq := hq.1 c10
            refine lv_iload_n hx hb d_MO_jump_48 rfl (lv_at hl 0 rfl) ?_
            refine lv_if_ge (tgt := 58) hx hb d_MO_jump_49 (by decide) (fun c11 => ?_) (fun c11 => ?_)
            · have hq := hq.1 c11
              refine lv_aload_n hx hb d_MO_jump_58 rfl (lv_at hl 1 rfl) ?_
              refine lv_dup hx hb d_MO_jump_59 rfl ?_
              refine cw_get (C := R_MO) (T := F_MO) (N := 39) (v := .int (gI σ 13)) hx hb hts (in_MO _) hown hK hP 0 (by decide) rfl rfl 37 (by decide) (ht _ wC_719) rfl d_MO_jump_60 ?_
              refine lv_iconst (v := 1) hx hb d_MO_jump_63 (by decide) ?_
              refine lv_iadd hx hb d_MO_jump_64 ?_
              refine cw_put (C := R_MO) (T := F_MO) (N := 39) (ty := .int) (v := .int ((gI σ 13) + 1)) hx hb hts (in_MO _) t_MO tok_MO n_MO hown hK hP hi hS 0 (by decide) rfl rfl 37 (by decide) (ht _ wC_719) rfl (by decide +kernel) rfl rfl (Nat.le_of_ble_eq_true rfl) up_MO_jumps d_MO_jump_65 (fun H locs hP hS => ?_)
              obtain ⟨s12, e_s12⟩ : ∃ z, z = sI σ 13 ((gI σ 13) + 1) := ⟨_, rfl⟩
              rw [← e_s12] at hP
              have hq := hq s12 e_s12
              refine lv_aload_n hx hb d_MO_jump_68 rfl (lv_at hl 1 rfl) ?_
              refine lv_iload_n hx hb d_MO_jump_69 rfl (lv_at hl 0 rfl) ?_
              refine lv_iconst (v := 1) hx hb d_MO_jump_70 (by decide) ?_
              refine lv_iadd hx hb d_MO_jump_71 ?_
              refine cw_put (C := R_MO) (T := F_MO) (N := 39) (ty := .int) (v := .int (x2 + 1)) hx hb hts (in_MO _) t_MO tok_MO n_MO hown hK hP hi hS 0 (by decide) rfl rfl 32 (by decide) (ht _ wC_714) rfl (by decide +kernel) rfl rfl (Nat.le_of_ble_eq_true rfl) up_MO_top d_MO_jump_72 (fun H locs hP hS => ?_)
              obtain ⟨s13, e_s13⟩ : ∃ z, z = sI s12 8 (x2 + 1) := ⟨_, rfl⟩
              rw [← e_s13] at hP
              have hq := hq s13 e_s13
              refine lv_aload_n hx hb d_MO_jump_75 rfl (lv_at hl 1 rfl) ?_
              refine lv_dconst0 hx hb d_MO_jump_76 ?_
              refine va_callv (va_runV (As := [.double FP.dconst0]) (rest := []) ⟨hx, hb, hml, hown, hts⟩ (c_MO_end (D := D) (cs := cs) hi hq) (cwV 1 hts (good_V wC_864 wC_866 wC_29 wC_50 wC_867) rfl rfl rfl (by decide +kernel) ⟨(show 0 + 1 ≤ 1 by omega), (show 8 + (3 + 11) + 0 ≤ 22 by omega)⟩) ⟨mP_blind, va_recv hK hP (ci := 5) (q0 := 0) rfl (wd_at (by decide) rfl), fun U hU hW => ⟨rfl, by rw [hU]; exact hP, va_K.moved hW.alike hK, hN.warm hW⟩⟩ rfl rfl hl.1 rfl (lv_room (Nat.le_of_ble_eq_true rfl)) d_MO_jump_77 ⟨Nat.le_of_ble_eq_true rfl, Nat.le_of_ble_eq_true rfl⟩) hS (fun q _ h => h) (fun q h => h) (fun s15 t H locs ht0 hvm hq hB hz1 hk1 hS => ?_)
              obtain ⟨hP, -, -⟩ := hB
              rw [ht0] at hP
              exact W.vret hx hb hr (fun t ht hW => ⟨⟨s15, rfl, hq, by rw [ht]; exact hP, va_K.moved hW.alike hK, hN.warm hW⟩, hS.F ht⟩) hS.2.2 d_MO_jump_80
            · have hq := hq.2 c11
              refine lv_aload_n hx hb d_MO_jump_52 rfl (lv_at hl 1 rfl) ?_
              refine lv_iconst (v := 5) hx hb d_MO_jump_53 (by decide) ?_
              refine va_callv (va_runV (As := [.int 5]) (rest := []) ⟨hx, hb, hml, hown, hts⟩ (c_MO_wrong (D := D) (cs := cs) hi hq) (cwV 1 hts (good_V wC_855 wC_857 wC_27 wC_50 wC_858) rfl rfl rfl (by decide +kernel) ⟨(show 0 + 1 ≤ 1 by omega), (show 8 + (2 + 11) + 0 ≤ 22 by omega)⟩) ⟨mP_blind, va_recv hK hP (ci := 5) (q0 := 0) rfl (wd_at (by decide) rfl), fun U hU hW => ⟨rfl, by rw [hU]; exact hP, va_K.moved hW.alike hK, hN.warm hW⟩⟩ rfl rfl hl.1 rfl (lv_room (Nat.le_of_ble_eq_true rfl)) d_MO_jump_54 ⟨Nat.le_of_ble_eq_true rfl, Nat.le_of_ble_eq_true rfl⟩) hS (fun q _ h => h) (fun q h => h) (fun s17 t H locs ht0 hvm hq hB hz1 hk1 hS => ?_)
              obtain ⟨hP, -, -⟩ := hB
              rw [ht0] at hP
              exact W.vret hx hb hr (fun t ht hW => ⟨⟨s17, rfl, hq, by rw [ht]; exact hP, va_K.moved hW.alike hK, hN.warm hW⟩, hS.F ht⟩) hS.2.2 d_MO_jump_57
          · have hq := hq.2 c10
            refine lv_iinc (v := x2 + (-1)) (lv' := [(2, .int (x2 + (-1))), (0, .ref (am 0)), (1, .int p1)]) hx hb d_MO_jump_42 hl (k := 0) rfl rfl (by decide) rfl (fun ls hl => ?_)
            refine lv_goto (tgt := 7) hx hb d_MO_jump_45 (by decide) ?_
            exact ih (x2 + (-1)) σ _ _ ls hq hP hS (lv_sub hl [0, 1, 2] rfl)
  refine lv_aload_n hx hb d_MO_jump_0 rfl (lv_at hl 0 rfl) ?_
  refine cw_get (C := R_MO) (T := F_MO) (N := 39) (v := .int (gI σ 8)) hx hb hts (in_MO _) hown hK hP 0 (by decide) rfl rfl 32 (by decide) (ht _ wC_714) rfl d_MO_jump_1 ?_
  refine lv_iconst (v := 1) hx hb d_MO_jump_4 (by decide) ?_
  refine lv_isub hx hb d_MO_jump_5 ?_
  refine lv_istore_n (lv' := [(2, .int ((gI σ 8) - 1)), (0, .ref (am 0)), (1, .int p1)]) hx hb d_MO_jump_6 rfl hl (by decide) rfl (fun ls hl => ?_)
  obtain ⟨fu, hq⟩ := hq
  exact loop_7 fu ((gI σ 8) - 1) σ _ _ ls hq hP hS (lv_sub hl [0, 1, 2] rfl)
def wp_MO_repeat (p1 : Int32) (p2 : Int32) (σ : CS) (Q : CS → Prop) : Prop := (vp_in p1 310 ∧ (((gA σ 13 p1.toNatClampNeg) = 1 → (((Op.cmpValue (FP.dcmp (gX σ 0) FP.dconst0) .l) = 0 → (wp_MO_end FP.dconst0 σ (fun s30 => Q s30))) ∧ (¬ (Op.cmpValue (FP.dcmp (gX σ 0) FP.dconst0) .l) = 0 → (vp_in p1 310 ∧ (((gA σ 13 p1.toNatClampNeg) = 1 → (vp_in p1 310 ∧ (∀ s23 : CS, s23 = sA σ 13 (upd (gA σ 13) p1.toNatClampNeg 2) → (vp_in p1 310 ∧ (((gA s23 13 p1.toNatClampNeg) = 2 → (vp_in p2 48 ∧ (vp_in p1 310 ∧ (wp_MO_enter (gA s23 2 p2.toNatClampNeg) (gA s23 12 p1.toNatClampNeg) s23 (fun s28 => Q s28))))) ∧ (¬ (gA s23 13 p1.toNatClampNeg) = 2 → (vp_in p2 48 ∧ (vp_in p1 310 ∧ (wp_MO_enter (gA s23 1 p2.toNatClampNeg) (gA s23 12 p1.toNatClampNeg) s23 (fun s26 => Q s26)))))))))) ∧ (¬ (gA σ 13 p1.toNatClampNeg) = 1 → (vp_in p1 310 ∧ (∀ s17 : CS, s17 = sA σ 13 (upd (gA σ 13) p1.toNatClampNeg 1) → (vp_in p1 310 ∧ (((gA s17 13 p1.toNatClampNeg) = 2 → (vp_in p2 48 ∧ (vp_in p1 310 ∧ (wp_MO_enter (gA s17 2 p2.toNatClampNeg) (gA s17 12 p1.toNatClampNeg) s17 (fun s22 => Q s22))))) ∧ (¬ (gA s17 13 p1.toNatClampNeg) = 2 → (vp_in p2 48 ∧ (vp_in p1 310 ∧ (wp_MO_enter (gA s17 1 p2.toNatClampNeg) (gA s17 12 p1.toNatClampNeg) s17 (fun s20 => Q s20))))))))))))))) ∧ (¬ (gA σ 13 p1.toNatClampNeg) = 1 → (vp_in p1 310 ∧ (((gA σ 13 p1.toNatClampNeg) = 1 → (vp_in p1 310 ∧ (∀ s9 : CS, s9 = sA σ 13 (upd (gA σ 13) p1.toNatClampNeg 2) → (vp_in p1 310 ∧ (((gA s9 13 p1.toNatClampNeg) = 2 → (vp_in p2 48 ∧ (vp_in p1 310 ∧ (wp_MO_enter (gA s9 2 p2.toNatClampNeg) (gA s9 12 p1.toNatClampNeg) s9 (fun s14 => Q s14))))) ∧ (¬ (gA s9 13 p1.toNatClampNeg) = 2 → (vp_in p2 48 ∧ (vp_in p1 310 ∧ (wp_MO_enter (gA s9 1 p2.toNatClampNeg) (gA s9 12 p1.toNatClampNeg) s9 (fun s12 => Q s12)))))))))) ∧ (¬ (gA σ 13 p1.toNatClampNeg) = 1 → (vp_in p1 310 ∧ (∀ s3 : CS, s3 = sA σ 13 (upd (gA σ 13) p1.toNatClampNeg 1) → (vp_in p1 310 ∧ (((gA s3 13 p1.toNatClampNeg) = 2 → (vp_in p2 48 ∧ (vp_in p1 310 ∧ (wp_MO_enter (gA s3 2 p2.toNatClampNeg) (gA s3 12 p1.toNatClampNeg) s3 (fun s8 => Q s8))))) ∧ (¬ (gA s3 13 p1.toNatClampNeg) = 2 → (vp_in p2 48 ∧ (vp_in p1 310 ∧ (wp_MO_enter (gA s3 1 p2.toNatClampNeg) (gA s3 12 p1.toNatClampNeg) s3 (fun s6 => Q s6)))))))))))))))
set_option maxHeartbeats 4000000 in
set_option maxRecDepth 100000 in
theorem c_MO_repeat {l : Launch} {D : va_G} {cs : CI} {am : Nat → Nat} (hi : aI am 25) {p1 : Int32} {p2 : Int32} {σ : CS} {Q : CS → Prop} (hq : wp_MO_repeat p1 p2 σ Q) : Met l y_MO_repeat (.code y_MO_repeat b_MO_repeat 3 none :: wC) ({ frames := 2, cells := 0, slots := 0, locals := 43 }) (va_Pc [.ref (am 0), .int p1, .int p2] (mP D cs am σ)) (va_Qv Q (mP D cs am) (aK am 25)) 0 0 (aK am 25) := by
  refine Met.ofW (cc := b_MO_repeat) (maxL := 3) (ret := none) (by decide) rfl ?_
  intro p e s m args below meth c s₁ B hml hv
  obtain ⟨rfl, hP, hK, hN⟩ := hv
  have hx := B.exec
  have hb := B.bytes
  have hr := B.returns
  have hts := atoms_spec (ws := .code y_MO_repeat b_MO_repeat 3 none :: wC) B.pre
  have ht : ∀ w ∈ wC, w.before _ s = true := fun w h => hts w (List.mem_cons_of_mem _ h)
  have hown : s.vm.findClass R_MO = some m.cls := findClass_of_methodNamed B.named
  have hlocks := B.notSynchronized
  have hS : va_S (aK am 25) s.heap s.heap [] := va_S.rf
  have hl := lv_entry ([.ref (am 0), .int p1, .int p2]) (n := 3) (Nat.le_of_ble_eq_true rfl)
  rw [lg_entry_eq]
  generalize (lg_sl ([.ref (am 0), .int p1, .int p2]) ++ List.replicate (3 - (lg_sl ([.ref (am 0), .int p1, .int p2])).length) Slot.unset).toArray = ls at hl ⊢
  have hl : lv_has ls 3 [(0, .ref (am 0)), (1, .int p1), (2, .int p2)] := hl
  unfold wp_MO_repeat at hq
  have hh8 : 8 < 9 := by decide
  refine lv_aload_n hx hb d_MO_repeat_0 rfl (lv_at hl 0 rfl) ?_
  refine cw_get (C := R_MO) (T := F_MO) (N := 39) (v := .ref (am 18)) hx hb hts (in_MO _) hown hK hP 0 (by decide) rfl rfl 25 (by decide) (ht _ wC_707) rfl d_MO_repeat_1 ?_
  refine lv_iload_n hx hb d_MO_repeat_4 rfl (lv_at hl 1 rfl) ?_
  refine cw_iald hx hb hK hP 18 (by decide) rfl 0 rfl hq.1 d_MO_repeat_5 ?_
  have hq := hq.2
  refine lv_iconst (v := 1) hx hb d_MO_repeat_6 (by decide) ?_
  refine lv_icmp_ne (tgt := 25) hx hb d_MO_repeat_7 (by decide) (fun c1 => ?_) (fun c1 => ?_)
  · have hq := hq.2 c1
    refine lv_aload_n hx hb d_MO_repeat_25 rfl (lv_at hl 0 rfl) ?_
    refine cw_get (C := R_MO) (T := F_MO) (N := 39) (v := .ref (am 18)) hx hb hts (in_MO _) hown hK hP 0 (by decide) rfl rfl 25 (by decide) (ht _ wC_707) rfl d_MO_repeat_26 ?_
    refine lv_iload_n hx hb d_MO_repeat_29 rfl (lv_at hl 1 rfl) ?_
    refine lv_aload_n hx hb d_MO_repeat_30 rfl (lv_at hl 0 rfl) ?_
    refine cw_get (C := R_MO) (T := F_MO) (N := 39) (v := .ref (am 18)) hx hb hts (in_MO _) hown hK hP 0 (by decide) rfl rfl 25 (by decide) (ht _ wC_707) rfl d_MO_repeat_31 ?_
    refine lv_iload_n hx hb d_MO_repeat_34 rfl (lv_at hl 1 rfl) ?_
    refine cw_iald hx hb hK hP 18 (by decide) rfl 0 rfl hq.1 d_MO_repeat_35 ?_
    have hq := hq.2
    refine lv_iconst (v := 1) hx hb d_MO_repeat_36 (by decide) ?_
    refine lv_icmp_ne (tgt := 44) hx hb d_MO_repeat_37 (by decide) (fun c2 => ?_) (fun c2 => ?_)
    · have hq := hq.2 c2
      refine lv_iconst (v := 1) hx hb d_MO_repeat_44 (by decide) ?_
      refine cw_iast hx hb hK hP hi hS 18 (by decide) rfl 0 rfl hq.1 mpa_13 d_MO_repeat_45 (fun H locs hP hS => ?_)
      have hq := hq.2
      obtain ⟨s3, e_s3⟩ : ∃ z, z = sA σ 13 (upd (gA σ 13) p1.toNatClampNeg 1) := ⟨_, rfl⟩
      rw [← e_s3] at hP
      have hq := hq s3 e_s3
      refine lv_aload_n hx hb d_MO_repeat_46 rfl (lv_at hl 0 rfl) ?_
      refine lv_aload_n hx hb d_MO_repeat_47 rfl (lv_at hl 0 rfl) ?_
      refine cw_get (C := R_MO) (T := F_MO) (N := 39) (v := .ref (am 18)) hx hb hts (in_MO _) hown hK hP 0 (by decide) rfl rfl 25 (by decide) (ht _ wC_707) rfl d_MO_repeat_48 ?_
      refine lv_iload_n hx hb d_MO_repeat_51 rfl (lv_at hl 1 rfl) ?_
      refine cw_iald hx hb hK hP 18 (by decide) rfl 0 rfl hq.1 d_MO_repeat_52 ?_
      have hq := hq.2
      refine lv_iconst (v := 2) hx hb d_MO_repeat_53 (by decide) ?_
      refine lv_icmp_ne (tgt := 66) hx hb d_MO_repeat_54 (by decide) (fun c4 => ?_) (fun c4 => ?_)
      · have hq := hq.2 c4
        refine lv_aload_n hx hb d_MO_repeat_66 rfl (lv_at hl 0 rfl) ?_
        refine cw_get (C := R_MO) (T := F_MO) (N := 39) (v := .ref (am 2)) hx hb hts (in_MO _) hown hK hP 0 (by decide) rfl rfl 1 (by decide) (ht _ wC_683) rfl d_MO_repeat_67 ?_
        refine lv_iload_n hx hb d_MO_repeat_70 rfl (lv_at hl 2 rfl) ?_
        refine cw_iald hx hb hK hP 2 (by decide) rfl 0 rfl hq.1 d_MO_repeat_71 ?_
        have hq := hq.2
        refine lv_aload_n hx hb d_MO_repeat_72 rfl (lv_at hl 0 rfl) ?_
        refine cw_get (C := R_MO) (T := F_MO) (N := 39) (v := .ref (am 17)) hx hb hts (in_MO _) hown hK hP 0 (by decide) rfl rfl 24 (by decide) (ht _ wC_706) rfl d_MO_repeat_73 ?_
        refine lv_iload_n hx hb d_MO_repeat_76 rfl (lv_at hl 1 rfl) ?_
        refine cw_iald hx hb hK hP 17 (by decide) rfl 0 rfl hq.1 d_MO_repeat_77 ?_
        have hq := hq.2
        refine va_callv (va_runV (As := [.int (gA s3 1 p2.toNatClampNeg), .int (gA s3 12 p1.toNatClampNeg)]) (rest := []) ⟨hx, hb, hml, hown, hts⟩ (c_MO_enter (D := D) (cs := cs) hi hq) (cwV 2 hts (good_V wC_851 wC_853 wC_26 wC_50 wC_854) rfl rfl rfl (by decide +kernel) ⟨(show 1 + 1 ≤ 2 by omega), (show 8 + (3 + 11) + 21 ≤ 43 by omega)⟩) ⟨mP_blind, va_recv hK hP (ci := 5) (q0 := 0) rfl (wd_at (by decide) rfl), fun U hU hW => ⟨rfl, by rw [hU]; exact hP, va_K.moved hW.alike hK, hN.warm hW⟩⟩ rfl rfl hl.1 rfl (lv_room (Nat.le_of_ble_eq_true rfl)) d_MO_repeat_78 ⟨Nat.le_of_ble_eq_true rfl, Nat.le_of_ble_eq_true rfl⟩) hS (fun q _ h => h) (fun q h => h) (fun s6 t H locs ht0 hvm hq hB hz1 hk1 hS => ?_)
        obtain ⟨hP, -, -⟩ := hB
        rw [ht0] at hP
        exact W.vret hx hb hr (fun t ht hW => ⟨⟨s6, rfl, hq, by rw [ht]; exact hP, va_K.moved hW.alike hK, hN.warm hW⟩, hS.F ht⟩) hS.2.2 d_MO_repeat_81
      · have hq := hq.1 c4
        refine lv_aload_n hx hb d_MO_repeat_57 rfl (lv_at hl 0 rfl) ?_
        refine cw_get (C := R_MO) (T := F_MO) (N := 39) (v := .ref (am 3)) hx hb hts (in_MO _) hown hK hP 0 (by decide) rfl rfl 2 (by decide) (ht _ wC_684) rfl d_MO_repeat_58 ?_
        refine lv_iload_n hx hb d_MO_repeat_61 rfl (lv_at hl 2 rfl) ?_
        refine cw_iald hx hb hK hP 3 (by decide) rfl 0 rfl hq.1 d_MO_repeat_62 ?_
        have hq := hq.2
        refine lv_goto (tgt := 72) hx hb d_MO_repeat_63 (by decide) ?_
        refine lv_aload_n hx hb d_MO_repeat_72 rfl (lv_at hl 0 rfl) ?_
        refine cw_get (C := R_MO) (T := F_MO) (N := 39) (v := .ref (am 17)) hx hb hts (in_MO _) hown hK hP 0 (by decide) rfl rfl 24 (by decide) (ht _ wC_706) rfl d_MO_repeat_73 ?_
        refine lv_iload_n hx hb d_MO_repeat_76 rfl (lv_at hl 1 rfl) ?_
        refine cw_iald hx hb hK hP 17 (by decide) rfl 0 rfl hq.1 d_MO_repeat_77 ?_
        have hq := hq.2
        refine va_callv (va_runV (As := [.int (gA s3 2 p2.toNatClampNeg), .int (gA s3 12 p1.toNatClampNeg)]) (rest := []) ⟨hx, hb, hml, hown, hts⟩ (c_MO_enter (D := D) (cs := cs) hi hq) (cwV 2 hts (good_V wC_851 wC_853 wC_26 wC_50 wC_854) rfl rfl rfl (by decide +kernel) ⟨(show 1 + 1 ≤ 2 by omega), (show 8 + (3 + 11) + 21 ≤ 43 by omega)⟩) ⟨mP_blind, va_recv hK hP (ci := 5) (q0 := 0) rfl (wd_at (by decide) rfl), fun U hU hW => ⟨rfl, by rw [hU]; exact hP, va_K.moved hW.alike hK, hN.warm hW⟩⟩ rfl rfl hl.1 rfl (lv_room (Nat.le_of_ble_eq_true rfl)) d_MO_repeat_78 ⟨Nat.le_of_ble_eq_true rfl, Nat.le_of_ble_eq_true rfl⟩) hS (fun q _ h => h) (fun q h => h) (fun s8 t H locs ht0 hvm hq hB hz1 hk1 hS => ?_)
        obtain ⟨hP, -, -⟩ := hB
        rw [ht0] at hP
        exact W.vret hx hb hr (fun t ht hW => ⟨⟨s8, rfl, hq, by rw [ht]; exact hP, va_K.moved hW.alike hK, hN.warm hW⟩, hS.F ht⟩) hS.2.2 d_MO_repeat_81
    · have hq := hq.1 c2
      refine lv_iconst (v := 2) hx hb d_MO_repeat_40 (by decide) ?_
      refine lv_goto (tgt := 45) hx hb d_MO_repeat_41 (by decide) ?_
      refine cw_iast hx hb hK hP hi hS 18 (by decide) rfl 0 rfl hq.1 mpa_13 d_MO_repeat_45 (fun H locs hP hS => ?_)
      have hq := hq.2
      obtain ⟨s9, e_s9⟩ : ∃ z, z = sA σ 13 (upd (gA σ 13) p1.toNatClampNeg 2) := ⟨_, rfl⟩
      rw [← e_s9] at hP
      have hq := hq s9 e_s9
      refine lv_aload_n hx hb d_MO_repeat_46 rfl (lv_at hl 0 rfl) ?_
      refine lv_aload_n hx hb d_MO_repeat_47 rfl (lv_at hl 0 rfl) ?_
      refine cw_get (C := R_MO) (T := F_MO) (N := 39) (v := .ref (am 18)) hx hb hts (in_MO _) hown hK hP 0 (by decide) rfl rfl 25 (by decide) (ht _ wC_707) rfl d_MO_repeat_48 ?_
      refine lv_iload_n hx hb d_MO_repeat_51 rfl (lv_at hl 1 rfl) ?_
      refine cw_iald hx hb hK hP 18 (by decide) rfl 0 rfl hq.1 d_MO_repeat_52 ?_
      have hq := hq.2
      refine lv_iconst (v := 2) hx hb d_MO_repeat_53 (by decide) ?_
      refine lv_icmp_ne (tgt := 66) hx hb d_MO_repeat_54 (by decide) (fun c10 => ?_) (fun c10 => ?_)
      · have hq := hq.2 c10
        refine lv_aload_n hx hb d_MO_repeat_66 rfl (lv_at hl 0 rfl) ?_
        refine cw_get (C := R_MO) (T := F_MO) (N := 39) (v := .ref (am 2)) hx hb hts (in_MO _) hown hK hP 0 (by decide) rfl rfl 1 (by decide) (ht _ wC_683) rfl d_MO_repeat_67 ?_
        refine lv_iload_n hx hb d_MO_repeat_70 rfl (lv_at hl 2 rfl) ?_
        refine cw_iald hx hb hK hP 2 (by decide) rfl 0 rfl hq.1 d_MO_repeat_71 ?_
        have hq := hq.2
        refine lv_aload_n hx hb d_MO_repeat_72 rfl (lv_at hl 0 rfl) ?_
        refine cw_get (C := R_MO) (T := F_MO) (N := 39) (v := .ref (am 17)) hx hb hts (in_MO _) hown hK hP 0 (by decide) rfl rfl 24 (by decide) (ht _ wC_706) rfl d_MO_repeat_73 ?_
        refine lv_iload_n hx hb d_MO_repeat_76 rfl (lv_at hl 1 rfl) ?_
        refine cw_iald hx hb hK hP 17 (by decide) rfl 0 rfl hq.1 d_MO_repeat_77 ?_
        have hq := hq.2
        refine va_callv (va_runV (As := [.int (gA s9 1 p2.toNatClampNeg), .int (gA s9 12 p1.toNatClampNeg)]) (rest := []) ⟨hx, hb, hml, hown, hts⟩ (c_MO_enter (D := D) (cs := cs) hi hq) (cwV 2 hts (good_V wC_851 wC_853 wC_26 wC_50 wC_854) rfl rfl rfl (by decide +kernel) ⟨(show 1 + 1 ≤ 2 by omega), (show 8 + (3 + 11) + 21 ≤ 43 by omega)⟩) ⟨mP_blind, va_recv hK hP (ci := 5) (q0 := 0) rfl (wd_at (by decide) rfl), fun U hU hW => ⟨rfl, by rw [hU]; exact hP, va_K.moved hW.alike hK, hN.warm hW⟩⟩ rfl rfl hl.1 rfl (lv_room (Nat.le_of_ble_eq_true rfl)) d_MO_repeat_78 ⟨Nat.le_of_ble_eq_true rfl, Nat.le_of_ble_eq_true rfl⟩) hS (fun q _ h => h) (fun q h => h) (fun s12 t H locs ht0 hvm hq hB hz1 hk1 hS => ?_)
        obtain ⟨hP, -, -⟩ := hB
        rw [ht0] at hP
        exact W.vret hx hb hr (fun t ht hW => ⟨⟨s12, rfl, hq, by rw [ht]; exact hP, va_K.moved hW.alike hK, hN.warm hW⟩, hS.F ht⟩) hS.2.2 d_MO_repeat_81
      · have hq := hq.1 c10
        refine lv_aload_n hx hb d_MO_repeat_57 rfl (lv_at hl 0 rfl) ?_
        refine cw_get (C := R_MO) (T := F_MO) (N := 39) (v := .ref (am 3)) hx hb hts (in_MO _) hown hK hP 0 (by decide) rfl rfl 2 (by decide) (ht _ wC_684) rfl d_MO_repeat_58 ?_
        refine lv_iload_n hx hb d_MO_repeat_61 rfl (lv_at hl 2 rfl) ?_
        refine cw_iald hx hb hK hP 3 (by decide) rfl 0 rfl hq.1 d_MO_repeat_62 ?_
        have hq := hq.2
        refine lv_goto (tgt := 72) hx hb d_MO_repeat_63 (by decide) ?_
        refine lv_aload_n hx hb d_MO_repeat_72 rfl (lv_at hl 0 rfl) ?_
        refine cw_get (C := R_MO) (T := F_MO) (N := 39) (v := .ref (am 17)) hx hb hts (in_MO _) hown hK hP 0 (by decide) rfl rfl 24 (by decide) (ht _ wC_706) rfl d_MO_repeat_73 ?_
        refine lv_iload_n hx hb d_MO_repeat_76 rfl (lv_at hl 1 rfl) ?_
        refine cw_iald hx hb hK hP 17 (by decide) rfl 0 rfl hq.1 d_MO_repeat_77 ?_
        have hq := hq.2
        refine va_callv (va_runV (As := [.int (gA s9 2 p2.toNatClampNeg), .int (gA s9 12 p1.toNatClampNeg)]) (rest := []) ⟨hx, hb, hml, hown, hts⟩ (c_MO_enter (D := D) (cs := cs) hi hq) (cwV 2 hts (good_V wC_851 wC_853 wC_26 wC_50 wC_854) rfl rfl rfl (by decide +kernel) ⟨(show 1 + 1 ≤ 2 by omega), (show 8 + (3 + 11) + 21 ≤ 43 by omega)⟩) ⟨mP_blind, va_recv hK hP (ci := 5) (q0 := 0) rfl (wd_at (by decide) rfl), fun U hU hW => ⟨rfl, by rw [hU]; exact hP, va_K.moved hW.alike hK, hN.warm hW⟩⟩ rfl rfl hl.1 rfl (lv_room (Nat.le_of_ble_eq_true rfl)) d_MO_repeat_78 ⟨Nat.le_of_ble_eq_true rfl, Nat.le_of_ble_eq_true rfl⟩) hS (fun q _ h => h) (fun q h => h) (fun s14 t H locs ht0 hvm hq hB hz1 hk1 hS => ?_)
        obtain ⟨hP, -, -⟩ := hB
        rw [ht0] at hP
        exact W.vret hx hb hr (fun t ht hW => ⟨⟨s14, rfl, hq, by rw [ht]; exact hP, va_K.moved hW.alike hK, hN.warm hW⟩, hS.F ht⟩) hS.2.2 d_MO_repeat_81
  · have hq := hq.1 c1
    refine lv_aload_n hx hb d_MO_repeat_10 rfl (lv_at hl 0 rfl) ?_
    refine cw_get (C := R_MO) (T := F_MO) (N := 39) (v := .double (gX σ 0)) hx hb hts (in_MO _) hown hK hP 0 (by decide) rfl rfl 38 (by decide) (ht _ wC_720) rfl d_MO_repeat_11 ?_
    refine lv_dconst0 hx hb d_MO_repeat_14 ?_
    refine lv_dcmp hx hb d_MO_repeat_15 ?_
    refine lv_if_ne (tgt := 25) hx hb d_MO_repeat_16 (by decide) (fun c15 => ?_) (fun c15 => ?_)
    · have hq := hq.2 c15
      refine lv_aload_n hx hb d_MO_repeat_25 rfl (lv_at hl 0 rfl) ?_
      refine cw_get (C := R_MO) (T := F_MO) (N := 39) (v := .ref (am 18)) hx hb hts (in_MO _) hown hK hP 0 (by decide) rfl rfl 25 (by decide) (ht _ wC_707) rfl d_MO_repeat_26 ?_
      refine lv_iload_n hx hb d_MO_repeat_29 rfl (lv_at hl 1 rfl) ?_
      refine lv_aload_n hx hb d_MO_repeat_30 rfl (lv_at hl 0 rfl) ?_
      refine cw_get (C := R_MO) (T := F_MO) (N := 39) (v := .ref (am 18)) hx hb hts (in_MO _) hown hK hP 0 (by decide) rfl rfl 25 (by decide) (ht _ wC_707) rfl d_MO_repeat_31 ?_
      refine lv_iload_n hx hb d_MO_repeat_34 rfl (lv_at hl 1 rfl) ?_
      refine cw_iald hx hb hK hP 18 (by decide) rfl 0 rfl hq.1 d_MO_repeat_35 ?_
      have hq := hq.2
      refine lv_iconst (v := 1) hx hb d_MO_repeat_36 (by decide) ?_
      refine lv_icmp_ne (tgt := 44) hx hb d_MO_repeat_37 (by decide) (fun c16 => ?_) (fun c16 => ?_)
      · have hq := hq.2 c16
        refine lv_iconst (v := 1) hx hb d_MO_repeat_44 (by decide) ?_
        refine cw_iast hx hb hK hP hi hS 18 (by decide) rfl 0 rfl hq.1 mpa_13 d_MO_repeat_45 (fun H locs hP hS => ?_)
        have hq := hq.2
        obtain ⟨s17, e_s17⟩ : ∃ z, z = sA σ 13 (upd (gA σ 13) p1.toNatClampNeg 1) := ⟨_, rfl⟩
        rw [← e_s17] at hP
        have hq := hq s17 e_s17
        refine lv_aload_n hx hb d_MO_repeat_46 rfl (lv_at hl 0 rfl) ?_
        refine lv_aload_n hx hb d_MO_repeat_47 rfl (lv_at hl 0 rfl) ?_
        refine cw_get (C := R_MO) (T := F_MO) (N := 39) (v := .ref (am 18)) hx hb hts (in_MO _) hown hK hP 0 (by decide) rfl rfl 25 (by decide) (ht _ wC_707) rfl d_MO_repeat_48 ?_
        refine lv_iload_n hx hb d_MO_repeat_51 rfl (lv_at hl 1 rfl) ?_
        refine cw_iald hx hb hK hP 18 (by decide) rfl 0 rfl hq.1 d_MO_repeat_52 ?_
        have hq := hq.2
        refine lv_iconst (v := 2) hx hb d_MO_repeat_53 (by decide) ?_
        refine lv_icmp_ne (tgt := 66) hx hb d_MO_repeat_54 (by decide) (fun c18 => ?_) (fun c18 => ?_)
        · have hq := hq.2 c18
          refine lv_aload_n hx hb d_MO_repeat_66 rfl (lv_at hl 0 rfl) ?_
          refine cw_get (C := R_MO) (T := F_MO) (N := 39) (v := .ref (am 2)) hx hb hts (in_MO _) hown hK hP 0 (by decide) rfl rfl 1 (by decide) (ht _ wC_683) rfl d_MO_repeat_67 ?_
          refine lv_iload_n hx hb d_MO_repeat_70 rfl (lv_at hl 2 rfl) ?_
          refine cw_iald hx hb hK hP 2 (by decide) rfl 0 rfl hq.1 d_MO_repeat_71 ?_
          have hq := hq.2
          refine lv_aload_n hx hb d_MO_repeat_72 rfl (lv_at hl 0 rfl) ?_
          refine cw_get (C := R_MO) (T := F_MO) (N := 39) (v := .ref (am 17)) hx hb hts (in_MO _) hown hK hP 0 (by decide) rfl rfl 24 (by decide) (ht _ wC_706) rfl d_MO_repeat_73 ?_
          refine lv_iload_n hx hb d_MO_repeat_76 rfl (lv_at hl 1 rfl) ?_
          refine cw_iald hx hb hK hP 17 (by decide) rfl 0 rfl hq.1 d_MO_repeat_77 ?_
          have hq := hq.2
          refine va_callv (va_runV (As := [.int (gA s17 1 p2.toNatClampNeg), .int (gA s17 12 p1.toNatClampNeg)]) (rest := []) ⟨hx, hb, hml, hown, hts⟩ (c_MO_enter (D := D) (cs := cs) hi hq) (cwV 2 hts (good_V wC_851 wC_853 wC_26 wC_50 wC_854) rfl rfl rfl (by decide +kernel) ⟨(show 1 + 1 ≤ 2 by omega), (show 8 + (3 + 11) + 21 ≤ 43 by omega)⟩) ⟨mP_blind, va_recv hK hP (ci := 5) (q0 := 0) rfl (wd_at (by decide) rfl), fun U hU hW => ⟨rfl, by rw [hU]; exact hP, va_K.moved hW.alike hK, hN.warm hW⟩⟩ rfl rfl hl.1 rfl (lv_room (Nat.le_of_ble_eq_true rfl)) d_MO_repeat_78 ⟨Nat.le_of_ble_eq_true rfl, Nat.le_of_ble_eq_true rfl⟩) hS (fun q _ h => h) (fun q h => h) (fun s20 t H locs ht0 hvm hq hB hz1 hk1 hS => ?_)
          obtain ⟨hP, -, -⟩ := hB
          rw [ht0] at hP
          exact W.vret hx hb hr (fun t ht hW => ⟨⟨s20, rfl, hq, by rw [ht]; exact hP, va_K.moved hW.alike hK, hN.warm hW⟩, hS.F ht⟩) hS.2.2 d_MO_repeat_81
        · have hq := hq.1 c18
          refine lv_aload_n hx hb d_MO_repeat_57 rfl (lv_at hl 0 rfl) ?_
          refine cw_get (C := R_MO) (T := F_MO) (N := 39) (v := .ref (am 3)) hx hb hts (in_MO _) hown hK hP 0 (by decide) rfl rfl 2 (by decide) (ht _ wC_684) rfl d_MO_repeat_58 ?_
          refine lv_iload_n hx hb d_MO_repeat_61 rfl (lv_at hl 2 rfl) ?_
          refine cw_iald hx hb hK hP 3 (by decide) rfl 0 rfl hq.1 d_MO_repeat_62 ?_
          have hq := hq.2
          refine lv_goto (tgt := 72) hx hb d_MO_repeat_63 (by decide) ?_
          refine lv_aload_n hx hb d_MO_repeat_72 rfl (lv_at hl 0 rfl) ?_
          refine cw_get (C := R_MO) (T := F_MO) (N := 39) (v := .ref (am 17)) hx hb hts (in_MO _) hown hK hP 0 (by decide) rfl rfl 24 (by decide) (ht _ wC_706) rfl d_MO_repeat_73 ?_
          refine lv_iload_n hx hb d_MO_repeat_76 rfl (lv_at hl 1 rfl) ?_
          refine cw_iald hx hb hK hP 17 (by decide) rfl 0 rfl hq.1 d_MO_repeat_77 ?_
          have hq := hq.2
          refine va_callv (va_runV (As := [.int (gA s17 2 p2.toNatClampNeg), .int (gA s17 12 p1.toNatClampNeg)]) (rest := []) ⟨hx, hb, hml, hown, hts⟩ (c_MO_enter (D := D) (cs := cs) hi hq) (cwV 2 hts (good_V wC_851 wC_853 wC_26 wC_50 wC_854) rfl rfl rfl (by decide +kernel) ⟨(show 1 + 1 ≤ 2 by omega), (show 8 + (3 + 11) + 21 ≤ 43 by omega)⟩) ⟨mP_blind, va_recv hK hP (ci := 5) (q0 := 0) rfl (wd_at (by decide) rfl), fun U hU hW => ⟨rfl, by rw [hU]; exact hP, va_K.moved hW.alike hK, hN.warm hW⟩⟩ rfl rfl hl.1 rfl (lv_room (Nat.le_of_ble_eq_true rfl)) d_MO_repeat_78 ⟨Nat.le_of_ble_eq_true rfl, Nat.le_of_ble_eq_true rfl⟩) hS (fun q _ h => h) (fun q h => h) (fun s22 t H locs ht0 hvm hq hB hz1 hk1 hS => ?_)
          obtain ⟨hP, -, -⟩ := hB
          rw [ht0] at hP
          exact W.vret hx hb hr (fun t ht hW => ⟨⟨s22, rfl, hq, by rw [ht]; exact hP, va_K.moved hW.alike hK, hN.warm hW⟩, hS.F ht⟩) hS.2.2 d_MO_repeat_81
      · have hq := hq.1 c16
        refine lv_iconst (v := 2) hx hb d_MO_repeat_40 (by decide) ?_
        refine lv_goto (tgt := 45) hx hb d_MO_repeat_41 (by decide) ?_
        refine cw_iast hx hb hK hP hi hS 18 (by decide) rfl 0 rfl hq.1 mpa_13 d_MO_repeat_45 (fun H locs hP hS => ?_)
        have hq := hq.2
        obtain ⟨s23, e_s23⟩ : ∃ z, z = sA σ 13 (upd (gA σ 13) p1.toNatClampNeg 2) := ⟨_, rfl⟩
        rw [← e_s23] at hP
        have hq := hq s23 e_s23
        refine lv_aload_n hx hb d_MO_repeat_46 rfl (lv_at hl 0 rfl) ?_
        refine lv_aload_n hx hb d_MO_repeat_47 rfl (lv_at hl 0 rfl) ?_
        refine cw_get (C := R_MO) (T := F_MO) (N := 39) (v := .ref (am 18)) hx hb hts (in_MO _) hown hK hP 0 (by decide) rfl rfl 25 (by decide) (ht _ wC_707) rfl d_MO_repeat_48 ?_
        refine lv_iload_n hx hb d_MO_repeat_51 rfl (lv_at hl 1 rfl) ?_
        refine cw_iald hx hb hK hP 18 (by decide) rfl 0 rfl hq.1 d_MO_repeat_52 ?_
        have hq := hq.2
        refine lv_iconst (v := 2) hx hb d_MO_repeat_53 (by decide) ?_
        refine lv_icmp_ne (tgt := 66) hx hb d_MO_repeat_54 (by decide) (fun c24 => ?_) (fun c24 => ?_)
        · have hq := hq.2 c24
          refine lv_aload_n hx hb d_MO_repeat_66 rfl (lv_at hl 0 rfl) ?_
          refine cw_get (C := R_MO) (T := F_MO) (N := 39) (v := .ref (am 2)) hx hb hts (in_MO _) hown hK hP 0 (by decide) rfl rfl 1 (by decide) (ht _ wC_683) rfl d_MO_repeat_67 ?_
          refine lv_iload_n hx hb d_MO_repeat_70 rfl (lv_at hl 2 rfl) ?_
          refine cw_iald hx hb hK hP 2 (by decide) rfl 0 rfl hq.1 d_MO_repeat_71 ?_
          have hq := hq.2
          refine lv_aload_n hx hb d_MO_repeat_72 rfl (lv_at hl 0 rfl) ?_
          refine cw_get (C := R_MO) (T := F_MO) (N := 39) (v := .ref (am 17)) hx hb hts (in_MO _) hown hK hP 0 (by decide) rfl rfl 24 (by decide) (ht _ wC_706) rfl d_MO_repeat_73 ?_
          refine lv_iload_n hx hb d_MO_repeat_76 rfl (lv_at hl 1 rfl) ?_
          refine cw_iald hx hb hK hP 17 (by decide) rfl 0 rfl hq.1 d_MO_repeat_77 ?_
          have hq := hq.2
          refine va_callv (va_runV (As := [.int (gA s23 1 p2.toNatClampNeg), .int (gA s23 12 p1.toNatClampNeg)]) (rest := []) ⟨hx, hb, hml, hown, hts⟩ (c_MO_enter (D := D) (cs := cs) hi hq) (cwV 2 hts (good_V wC_851 wC_853 wC_26 wC_50 wC_854) rfl rfl rfl (by decide +kernel) ⟨(show 1 + 1 ≤ 2 by omega), (show 8 + (3 + 11) + 21 ≤ 43 by omega)⟩) ⟨mP_blind, va_recv hK hP (ci := 5) (q0 := 0) rfl (wd_at (by decide) rfl), fun U hU hW => ⟨rfl, by rw [hU]; exact hP, va_K.moved hW.alike hK, hN.warm hW⟩⟩ rfl rfl hl.1 rfl (lv_room (Nat.le_of_ble_eq_true rfl)) d_MO_repeat_78 ⟨Nat.le_of_ble_eq_true rfl, Nat.le_of_ble_eq_true rfl⟩) hS (fun q _ h => h) (fun q h => h) (fun s26 t H locs ht0 hvm hq hB hz1 hk1 hS => ?_)
          obtain ⟨hP, -, -⟩ := hB
          rw [ht0] at hP
          exact W.vret hx hb hr (fun t ht hW => ⟨⟨s26, rfl, hq, by rw [ht]; exact hP, va_K.moved hW.alike hK, hN.warm hW⟩, hS.F ht⟩) hS.2.2 d_MO_repeat_81
        · have hq := hq.1 c24
          refine lv_aload_n hx hb d_MO_repeat_57 rfl (lv_at hl 0 rfl) ?_
          refine cw_get (C := R_MO) (T := F_MO) (N := 39) (v := .ref (am 3)) hx hb hts (in_MO _) hown hK hP 0 (by decide) rfl rfl 2 (by decide) (ht _ wC_684) rfl d_MO_repeat_58 ?_
          refine lv_iload_n hx hb d_MO_repeat_61 rfl (lv_at hl 2 rfl) ?_
          refine cw_iald hx hb hK hP 3 (by decide) rfl 0 rfl hq.1 d_MO_repeat_62 ?_
          have hq := hq.2
          refine lv_goto (tgt := 72) hx hb d_MO_repeat_63 (by decide) ?_
          refine lv_aload_n hx hb d_MO_repeat_72 rfl (lv_at hl 0 rfl) ?_
          refine cw_get (C := R_MO) (T := F_MO) (N := 39) (v := .ref (am 17)) hx hb hts (in_MO _) hown hK hP 0 (by decide) rfl rfl 24 (by decide) (ht _ wC_706) rfl d_MO_repeat_73 ?_
          refine lv_iload_n hx hb d_MO_repeat_76 rfl (lv_at hl 1 rfl) ?_
          refine cw_iald hx hb hK hP 17 (by decide) rfl 0 rfl hq.1 d_MO_repeat_77 ?_
          have hq := hq.2
          refine va_callv (va_runV (As := [.int (gA s23 2 p2.toNatClampNeg), .int (gA s23 12 p1.toNatClampNeg)]) (rest := []) ⟨hx, hb, hml, hown, hts⟩ (c_MO_enter (D := D) (cs := cs) hi hq) (cwV 2 hts (good_V wC_851 wC_853 wC_26 wC_50 wC_854) rfl rfl rfl (by decide +kernel) ⟨(show 1 + 1 ≤ 2 by omega), (show 8 + (3 + 11) + 21 ≤ 43 by omega)⟩) ⟨mP_blind, va_recv hK hP (ci := 5) (q0 := 0) rfl (wd_at (by decide) rfl), fun U hU hW => ⟨rfl, by rw [hU]; exact hP, va_K.moved hW.alike hK, hN.warm hW⟩⟩ rfl rfl hl.1 rfl (lv_room (Nat.le_of_ble_eq_true rfl)) d_MO_repeat_78 ⟨Nat.le_of_ble_eq_true rfl, Nat.le_of_ble_eq_true rfl⟩) hS (fun q _ h => h) (fun q h => h) (fun s28 t H locs ht0 hvm hq hB hz1 hk1 hS => ?_)
          obtain ⟨hP, -, -⟩ := hB
          rw [ht0] at hP
          exact W.vret hx hb hr (fun t ht hW => ⟨⟨s28, rfl, hq, by rw [ht]; exact hP, va_K.moved hW.alike hK, hN.warm hW⟩, hS.F ht⟩) hS.2.2 d_MO_repeat_81
    · have hq := hq.1 c15
      refine lv_aload_n hx hb d_MO_repeat_19 rfl (lv_at hl 0 rfl) ?_
      refine lv_dconst0 hx hb d_MO_repeat_20 ?_
      refine va_callv (va_runV (As := [.double FP.dconst0]) (rest := []) ⟨hx, hb, hml, hown, hts⟩ (c_MO_end (D := D) (cs := cs) hi hq) (cwV 1 hts (good_V wC_864 wC_866 wC_29 wC_50 wC_867) rfl rfl rfl (by decide +kernel) ⟨(show 0 + 1 ≤ 2 by omega), (show 8 + (3 + 11) + 0 ≤ 43 by omega)⟩) ⟨mP_blind, va_recv hK hP (ci := 5) (q0 := 0) rfl (wd_at (by decide) rfl), fun U hU hW => ⟨rfl, by rw [hU]; exact hP, va_K.moved hW.alike hK, hN.warm hW⟩⟩ rfl rfl hl.1 rfl (lv_room (Nat.le_of_ble_eq_true rfl)) d_MO_repeat_21 ⟨Nat.le_of_ble_eq_true rfl, Nat.le_of_ble_eq_true rfl⟩) hS (fun q _ h => h) (fun q h => h) (fun s30 t H locs ht0 hvm hq hB hz1 hk1 hS => ?_)
      obtain ⟨hP, -, -⟩ := hB
      rw [ht0] at hP
      exact W.vret hx hb hr (fun t ht hW => ⟨⟨s30, rfl, hq, by rw [ht]; exact hP, va_K.moved hW.alike hK, hN.warm hW⟩, hS.F ht⟩) hS.2.2 d_MO_repeat_24
def wp_MO_step  (σ : CS) (Q : CS → Prop) : Prop := (vp_in ((gI σ 8) - 1) 310 ∧ (vp_in (gA σ 11 (((gI σ 8) - 1).toNatClampNeg)) 48 ∧ (vp_in (gA σ 11 (((gI σ 8) - 1).toNatClampNeg)) 48 ∧ (vp_in ((gI σ 8) - 1) 310 ∧ (((gA σ 0 ((gA σ 11 (((gI σ 8) - 1).toNatClampNeg)).toNatClampNeg)) = 0 → (vf_n64 (FP.ddiv (FP.i2d (gA σ 1 ((gA σ 11 (((gI σ 8) - 1).toNatClampNeg)).toNatClampNeg))) 4620693217682128896) ∧ (wp_MO_end (FP.ddiv (FP.i2d (gA σ 1 ((gA σ 11 (((gI σ 8) - 1).toNatClampNeg)).toNatClampNeg))) 4620693217682128896) σ (fun s3 => Q s3)))) ∧ (¬ (gA σ 0 ((gA σ 11 (((gI σ 8) - 1).toNatClampNeg)).toNatClampNeg)) = 0 → (((gA σ 0 ((gA σ 11 (((gI σ 8) - 1).toNatClampNeg)).toNatClampNeg)) = 1 → (vp_in (gA σ 1 ((gA σ 11 (((gI σ 8) - 1).toNatClampNeg)).toNatClampNeg)) 8 ∧ (wp_MO_end (gD σ 0 ((gA σ 1 ((gA σ 11 (((gI σ 8) - 1).toNatClampNeg)).toNatClampNeg)).toNatClampNeg)) σ (fun s6 => Q s6)))) ∧ (¬ (gA σ 0 ((gA σ 11 (((gI σ 8) - 1).toNatClampNeg)).toNatClampNeg)) = 1 → (((gA σ 0 ((gA σ 11 (((gI σ 8) - 1).toNatClampNeg)).toNatClampNeg)) = 9 → (vp_in ((gI σ 8) - 1) 310 ∧ (vp_in ((gI σ 8) - 1) 310 ∧ (∀ s8 : CS, s8 = sA σ 13 (upd (gA σ 13) (((gI σ 8) - 1).toNatClampNeg) ((gA σ 13 (((gI σ 8) - 1).toNatClampNeg)) + 1)) → (((gA σ 13 (((gI σ 8) - 1).toNatClampNeg)) = 2 → (wp_MO_end (gX s8 0) s8 (fun s11 => Q s11))) ∧ (¬ (gA σ 13 (((gI σ 8) - 1).toNatClampNeg)) = 2 → (((gA σ 13 (((gI σ 8) - 1).toNatClampNeg)) = 1 → (((gA σ 0 ((gA σ 11 (((gI σ 8) - 1).toNatClampNeg)).toNatClampNeg)) = 17 → (wp_MO_end (gX s8 0) s8 (fun s43 => Q s43))) ∧ (¬ (gA σ 0 ((gA σ 11 (((gI σ 8) - 1).toNatClampNeg)).toNatClampNeg)) = 17 → (((gA σ 13 (((gI σ 8) - 1).toNatClampNeg)) = 0 → (((gA σ 0 ((gA σ 11 (((gI σ 8) - 1).toNatClampNeg)).toNatClampNeg)) = 17 → (vp_in (gA σ 11 (((gI σ 8) - 1).toNatClampNeg)) 48 ∧ (vp_in ((gI σ 8) - 1) 310 ∧ (wp_MO_enter (gA s8 2 ((gA σ 11 (((gI σ 8) - 1).toNatClampNeg)).toNatClampNeg)) (gA s8 12 (((gI σ 8) - 1).toNatClampNeg)) s8 (fun s41 => Q s41))))) ∧ (¬ (gA σ 0 ((gA σ 11 (((gI σ 8) - 1).toNatClampNeg)).toNatClampNeg)) = 17 → (vp_in ((gI σ 8) - 1) 310 ∧ (wp_MO_enter (gA σ 1 ((gA σ 11 (((gI σ 8) - 1).toNatClampNeg)).toNatClampNeg)) (gA s8 12 (((gI σ 8) - 1).toNatClampNeg)) s8 (fun s39 => Q s39)))))) ∧ (¬ (gA σ 13 (((gI σ 8) - 1).toNatClampNeg)) = 0 → (((gA σ 0 ((gA σ 11 (((gI σ 8) - 1).toNatClampNeg)).toNatClampNeg)) = 14 → (vp_in (gA σ 11 (((gI σ 8) - 1).toNatClampNeg)) 48 ∧ (vp_in ((gI σ 8) - 1) 310 ∧ (wp_MO_enter (gA s8 2 ((gA σ 11 (((gI σ 8) - 1).toNatClampNeg)).toNatClampNeg)) (gA s8 12 (((gI σ 8) - 1).toNatClampNeg)) s8 (fun s31 => Q s31))))) ∧ (¬ (gA σ 0 ((gA σ 11 (((gI σ 8) - 1).toNatClampNeg)).toNatClampNeg)) = 14 → (((Op.cmpValue (FP.dcmp (gX s8 0) FP.dconst0) .l) = 0 → (vp_in (gA σ 11 (((gI σ 8) - 1).toNatClampNeg)) 48 ∧ (vp_in ((gI σ 8) - 1) 310 ∧ (wp_MO_enter (gA s8 3 ((gA σ 11 (((gI σ 8) - 1).toNatClampNeg)).toNatClampNeg)) (gA s8 12 (((gI σ 8) - 1).toNatClampNeg)) s8 (fun s34 => Q s34))))) ∧ (¬ (Op.cmpValue (FP.dcmp (gX s8 0) FP.dconst0) .l) = 0 → (vp_in (gA σ 11 (((gI σ 8) - 1).toNatClampNeg)) 48 ∧ (vp_in ((gI σ 8) - 1) 310 ∧ (wp_MO_enter (gA s8 2 ((gA σ 11 (((gI σ 8) - 1).toNatClampNeg)).toNatClampNeg)) (gA s8 12 (((gI σ 8) - 1).toNatClampNeg)) s8 (fun s36 => Q s36))))))))))))) ∧ (¬ (gA σ 13 (((gI σ 8) - 1).toNatClampNeg)) = 1 → (((gA σ 13 (((gI σ 8) - 1).toNatClampNeg)) = 0 → (((gA σ 0 ((gA σ 11 (((gI σ 8) - 1).toNatClampNeg)).toNatClampNeg)) = 17 → (vp_in (gA σ 11 (((gI σ 8) - 1).toNatClampNeg)) 48 ∧ (vp_in ((gI σ 8) - 1) 310 ∧ (wp_MO_enter (gA s8 2 ((gA σ 11 (((gI σ 8) - 1).toNatClampNeg)).toNatClampNeg)) (gA s8 12 (((gI σ 8) - 1).toNatClampNeg)) s8 (fun s26 => Q s26))))) ∧ (¬ (gA σ 0 ((gA σ 11 (((gI σ 8) - 1).toNatClampNeg)).toNatClampNeg)) = 17 → (vp_in ((gI σ 8) - 1) 310 ∧ (wp_MO_enter (gA σ 1 ((gA σ 11 (((gI σ 8) - 1).toNatClampNeg)).toNatClampNeg)) (gA s8 12 (((gI σ 8) - 1).toNatClampNeg)) s8 (fun s24 => Q s24)))))) ∧ (¬ (gA σ 13 (((gI σ 8) - 1).toNatClampNeg)) = 0 → (((gA σ 0 ((gA σ 11 (((gI σ 8) - 1).toNatClampNeg)).toNatClampNeg)) = 14 → (vp_in (gA σ 11 (((gI σ 8) - 1).toNatClampNeg)) 48 ∧ (vp_in ((gI σ 8) - 1) 310 ∧ (wp_MO_enter (gA s8 2 ((gA σ 11 (((gI σ 8) - 1).toNatClampNeg)).toNatClampNeg)) (gA s8 12 (((gI σ 8) - 1).toNatClampNeg)) s8 (fun s16 => Q s16))))) ∧ (¬ (gA σ 0 ((gA σ 11 (((gI σ 8) - 1).toNatClampNeg)).toNatClampNeg)) = 14 → (((Op.cmpValue (FP.dcmp (gX s8 0) FP.dconst0) .l) = 0 → (vp_in (gA σ 11 (((gI σ 8) - 1).toNatClampNeg)) 48 ∧ (vp_in ((gI σ 8) - 1) 310 ∧ (wp_MO_enter (gA s8 3 ((gA σ 11 (((gI σ 8) - 1).toNatClampNeg)).toNatClampNeg)) (gA s8 12 (((gI σ 8) - 1).toNatClampNeg)) s8 (fun s19 => Q s19))))) ∧ (¬ (Op.cmpValue (FP.dcmp (gX s8 0) FP.dconst0) .l) = 0 → (vp_in (gA σ 11 (((gI σ 8) - 1).toNatClampNeg)) 48 ∧ (vp_in ((gI σ 8) - 1) 310 ∧ (wp_MO_enter (gA s8 2 ((gA σ 11 (((gI σ 8) - 1).toNatClampNeg)).toNatClampNeg)) (gA s8 12 (((gI σ 8) - 1).toNatClampNeg)) s8 (fun s21 => Q s21)))))))))))))))))) ∧ (¬ (gA σ 0 ((gA σ 11 (((gI σ 8) - 1).toNatClampNeg)).toNatClampNeg)) = 9 → (((gA σ 0 ((gA σ 11 (((gI σ 8) - 1).toNatClampNeg)).toNatClampNeg)) = 10 → (wp_MO_parameter ((gI σ 8) - 1) (gA σ 1 ((gA σ 11 (((gI σ 8) - 1).toNatClampNeg)).toNatClampNeg)) σ (fun s46 => Q s46))) ∧ (¬ (gA σ 0 ((gA σ 11 (((gI σ 8) - 1).toNatClampNeg)).toNatClampNeg)) = 10 → (((gA σ 0 ((gA σ 11 (((gI σ 8) - 1).toNatClampNeg)).toNatClampNeg)) = 11 → (vp_in ((gI σ 8) - 1) 310 ∧ (((gA σ 12 (((gI σ 8) - 1).toNatClampNeg)) = 0 → (wp_MO_wrong 4 σ (fun s52 => Q s52))) ∧ (¬ (gA σ 12 (((gI σ 8) - 1).toNatClampNeg)) = 0 → (vp_in ((gI σ 8) - 1) 310 ∧ (vp_in ((2 * (gA σ 12 (((gI σ 8) - 1).toNatClampNeg))) + (gA σ 1 ((gA σ 11 (((gI σ 8) - 1).toNatClampNeg)).toNatClampNeg))) 20 ∧ (wp_MO_end (gD σ 3 (((2 * (gA σ 12 (((gI σ 8) - 1).toNatClampNeg))) + (gA σ 1 ((gA σ 11 (((gI σ 8) - 1).toNatClampNeg)).toNatClampNeg))).toNatClampNeg)) σ (fun s50 => Q s50)))))))) ∧ (¬ (gA σ 0 ((gA σ 11 (((gI σ 8) - 1).toNatClampNeg)).toNatClampNeg)) = 11 → (((gA σ 0 ((gA σ 11 (((gI σ 8) - 1).toNatClampNeg)).toNatClampNeg)) = 12 → (wp_MO_call ((gI σ 8) - 1) (gA σ 11 (((gI σ 8) - 1).toNatClampNeg)) σ (fun s55 => Q s55))) ∧ (¬ (gA σ 0 ((gA σ 11 (((gI σ 8) - 1).toNatClampNeg)).toNatClampNeg)) = 12 → (((gA σ 0 ((gA σ 11 (((gI σ 8) - 1).toNatClampNeg)).toNatClampNeg)) = 13 → (wp_MO_set ((gI σ 8) - 1) (gA σ 11 (((gI σ 8) - 1).toNatClampNeg)) σ (fun s58 => Q s58))) ∧ (¬ (gA σ 0 ((gA σ 11 (((gI σ 8) - 1).toNatClampNeg)).toNatClampNeg)) = 13 → (((gA σ 0 ((gA σ 11 (((gI σ 8) - 1).toNatClampNeg)).toNatClampNeg)) = 14 → (vp_in ((gI σ 8) - 1) 310 ∧ (vp_in ((gI σ 8) - 1) 310 ∧ (∀ s60 : CS, s60 = sA σ 13 (upd (gA σ 13) (((gI σ 8) - 1).toNatClampNeg) ((gA σ 13 (((gI σ 8) - 1).toNatClampNeg)) + 1)) → (((gA σ 13 (((gI σ 8) - 1).toNatClampNeg)) = 2 → (wp_MO_end (gX s60 0) s60 (fun s63 => Q s63))) ∧ (¬ (gA σ 13 (((gI σ 8) - 1).toNatClampNeg)) = 2 → (((gA σ 13 (((gI σ 8) - 1).toNatClampNeg)) = 1 → (((gA σ 0 ((gA σ 11 (((gI σ 8) - 1).toNatClampNeg)).toNatClampNeg)) = 17 → (wp_MO_end (gX s60 0) s60 (fun s95 => Q s95))) ∧ (¬ (gA σ 0 ((gA σ 11 (((gI σ 8) - 1).toNatClampNeg)).toNatClampNeg)) = 17 → (((gA σ 13 (((gI σ 8) - 1).toNatClampNeg)) = 0 → (((gA σ 0 ((gA σ 11 (((gI σ 8) - 1).toNatClampNeg)).toNatClampNeg)) = 17 → (vp_in (gA σ 11 (((gI σ 8) - 1).toNatClampNeg)) 48 ∧ (vp_in ((gI σ 8) - 1) 310 ∧ (wp_MO_enter (gA s60 2 ((gA σ 11 (((gI σ 8) - 1).toNatClampNeg)).toNatClampNeg)) (gA s60 12 (((gI σ 8) - 1).toNatClampNeg)) s60 (fun s93 => Q s93))))) ∧ (¬ (gA σ 0 ((gA σ 11 (((gI σ 8) - 1).toNatClampNeg)).toNatClampNeg)) = 17 → (vp_in ((gI σ 8) - 1) 310 ∧ (wp_MO_enter (gA σ 1 ((gA σ 11 (((gI σ 8) - 1).toNatClampNeg)).toNatClampNeg)) (gA s60 12 (((gI σ 8) - 1).toNatClampNeg)) s60 (fun s91 => Q s91)))))) ∧ (¬ (gA σ 13 (((gI σ 8) - 1).toNatClampNeg)) = 0 → (((gA σ 0 ((gA σ 11 (((gI σ 8) - 1).toNatClampNeg)).toNatClampNeg)) = 14 → (vp_in (gA σ 11 (((gI σ 8) - 1).toNatClampNeg)) 48 ∧ (vp_in ((gI σ 8) - 1) 310 ∧ (wp_MO_enter (gA s60 2 ((gA σ 11 (((gI σ 8) - 1).toNatClampNeg)).toNatClampNeg)) (gA s60 12 (((gI σ 8) - 1).toNatClampNeg)) s60 (fun s83 => Q s83))))) ∧ (¬ (gA σ 0 ((gA σ 11 (((gI σ 8) - 1).toNatClampNeg)).toNatClampNeg)) = 14 → (((Op.cmpValue (FP.dcmp (gX s60 0) FP.dconst0) .l) = 0 → (vp_in (gA σ 11 (((gI σ 8) - 1).toNatClampNeg)) 48 ∧ (vp_in ((gI σ 8) - 1) 310 ∧ (wp_MO_enter (gA s60 3 ((gA σ 11 (((gI σ 8) - 1).toNatClampNeg)).toNatClampNeg)) (gA s60 12 (((gI σ 8) - 1).toNatClampNeg)) s60 (fun s86 => Q s86))))) ∧ (¬ (Op.cmpValue (FP.dcmp (gX s60 0) FP.dconst0) .l) = 0 → (vp_in (gA σ 11 (((gI σ 8) - 1).toNatClampNeg)) 48 ∧ (vp_in ((gI σ 8) - 1) 310 ∧ (wp_MO_enter (gA s60 2 ((gA σ 11 (((gI σ 8) - 1).toNatClampNeg)).toNatClampNeg)) (gA s60 12 (((gI σ 8) - 1).toNatClampNeg)) s60 (fun s88 => Q s88))))))))))))) ∧ (¬ (gA σ 13 (((gI σ 8) - 1).toNatClampNeg)) = 1 → (((gA σ 13 (((gI σ 8) - 1).toNatClampNeg)) = 0 → (((gA σ 0 ((gA σ 11 (((gI σ 8) - 1).toNatClampNeg)).toNatClampNeg)) = 17 → (vp_in (gA σ 11 (((gI σ 8) - 1).toNatClampNeg)) 48 ∧ (vp_in ((gI σ 8) - 1) 310 ∧ (wp_MO_enter (gA s60 2 ((gA σ 11 (((gI σ 8) - 1).toNatClampNeg)).toNatClampNeg)) (gA s60 12 (((gI σ 8) - 1).toNatClampNeg)) s60 (fun s78 => Q s78))))) ∧ (¬ (gA σ 0 ((gA σ 11 (((gI σ 8) - 1).toNatClampNeg)).toNatClampNeg)) = 17 → (vp_in ((gI σ 8) - 1) 310 ∧ (wp_MO_enter (gA σ 1 ((gA σ 11 (((gI σ 8) - 1).toNatClampNeg)).toNatClampNeg)) (gA s60 12 (((gI σ 8) - 1).toNatClampNeg)) s60 (fun s76 => Q s76)))))) ∧ (¬ (gA σ 13 (((gI σ 8) - 1).toNatClampNeg)) = 0 → (((gA σ 0 ((gA σ 11 (((gI σ 8) - 1).toNatClampNeg)).toNatClampNeg)) = 14 → (vp_in (gA σ 11 (((gI σ 8) - 1).toNatClampNeg)) 48 ∧ (vp_in ((gI σ 8) - 1) 310 ∧ (wp_MO_enter (gA s60 2 ((gA σ 11 (((gI σ 8) - 1).toNatClampNeg)).toNatClampNeg)) (gA s60 12 (((gI σ 8) - 1).toNatClampNeg)) s60 (fun s68 => Q s68))))) ∧ (¬ (gA σ 0 ((gA σ 11 (((gI σ 8) - 1).toNatClampNeg)).toNatClampNeg)) = 14 → (((Op.cmpValue (FP.dcmp (gX s60 0) FP.dconst0) .l) = 0 → (vp_in (gA σ 11 (((gI σ 8) - 1).toNatClampNeg)) 48 ∧ (vp_in ((gI σ 8) - 1) 310 ∧ (wp_MO_enter (gA s60 3 ((gA σ 11 (((gI σ 8) - 1).toNatClampNeg)).toNatClampNeg)) (gA s60 12 (((gI σ 8) - 1).toNatClampNeg)) s60 (fun s71 => Q s71))))) ∧ (¬ (Op.cmpValue (FP.dcmp (gX s60 0) FP.dconst0) .l) = 0 → (vp_in (gA σ 11 (((gI σ 8) - 1).toNatClampNeg)) 48 ∧ (vp_in ((gI σ 8) - 1) 310 ∧ (wp_MO_enter (gA s60 2 ((gA σ 11 (((gI σ 8) - 1).toNatClampNeg)).toNatClampNeg)) (gA s60 12 (((gI σ 8) - 1).toNatClampNeg)) s60 (fun s73 => Q s73)))))))))))))))))) ∧ (¬ (gA σ 0 ((gA σ 11 (((gI σ 8) - 1).toNatClampNeg)).toNatClampNeg)) = 14 → (((gA σ 0 ((gA σ 11 (((gI σ 8) - 1).toNatClampNeg)).toNatClampNeg)) = 15 → (wp_MO_repeat ((gI σ 8) - 1) (gA σ 11 (((gI σ 8) - 1).toNatClampNeg)) σ (fun s98 => Q s98))) ∧ (¬ (gA σ 0 ((gA σ 11 (((gI σ 8) - 1).toNatClampNeg)).toNatClampNeg)) = 15 → (((gA σ 0 ((gA σ 11 (((gI σ 8) - 1).toNatClampNeg)).toNatClampNeg)) = 16 → (wp_MO_jump (gA σ 1 ((gA σ 11 (((gI σ 8) - 1).toNatClampNeg)).toNatClampNeg)) σ (fun s101 => Q s101))) ∧ (¬ (gA σ 0 ((gA σ 11 (((gI σ 8) - 1).toNatClampNeg)).toNatClampNeg)) = 16 → (((gA σ 0 ((gA σ 11 (((gI σ 8) - 1).toNatClampNeg)).toNatClampNeg)) = 17 → (vp_in ((gI σ 8) - 1) 310 ∧ (vp_in ((gI σ 8) - 1) 310 ∧ (∀ s103 : CS, s103 = sA σ 13 (upd (gA σ 13) (((gI σ 8) - 1).toNatClampNeg) ((gA σ 13 (((gI σ 8) - 1).toNatClampNeg)) + 1)) → (((gA σ 13 (((gI σ 8) - 1).toNatClampNeg)) = 2 → (wp_MO_end (gX s103 0) s103 (fun s106 => Q s106))) ∧ (¬ (gA σ 13 (((gI σ 8) - 1).toNatClampNeg)) = 2 → (((gA σ 13 (((gI σ 8) - 1).toNatClampNeg)) = 1 → (((gA σ 0 ((gA σ 11 (((gI σ 8) - 1).toNatClampNeg)).toNatClampNeg)) = 17 → (wp_MO_end (gX s103 0) s103 (fun s138 => Q s138))) ∧ (¬ (gA σ 0 ((gA σ 11 (((gI σ 8) - 1).toNatClampNeg)).toNatClampNeg)) = 17 → (((gA σ 13 (((gI σ 8) - 1).toNatClampNeg)) = 0 → (((gA σ 0 ((gA σ 11 (((gI σ 8) - 1).toNatClampNeg)).toNatClampNeg)) = 17 → (vp_in (gA σ 11 (((gI σ 8) - 1).toNatClampNeg)) 48 ∧ (vp_in ((gI σ 8) - 1) 310 ∧ (wp_MO_enter (gA s103 2 ((gA σ 11 (((gI σ 8) - 1).toNatClampNeg)).toNatClampNeg)) (gA s103 12 (((gI σ 8) - 1).toNatClampNeg)) s103 (fun s136 => Q s136))))) ∧ (¬ (gA σ 0 ((gA σ 11 (((gI σ 8) - 1).toNatClampNeg)).toNatClampNeg)) = 17 → (vp_in ((gI σ 8) - 1) 310 ∧ (wp_MO_enter (gA σ 1 ((gA σ 11 (((gI σ 8) - 1).toNatClampNeg)).toNatClampNeg)) (gA s103 12 (((gI σ 8) - 1).toNatClampNeg)) s103 (fun s134 => Q s134)))))) ∧ (¬ (gA σ 13 (((gI σ 8) - 1).toNatClampNeg)) = 0 → (((gA σ 0 ((gA σ 11 (((gI σ 8) - 1).toNatClampNeg)).toNatClampNeg)) = 14 → (vp_in (gA σ 11 (((gI σ 8) - 1).toNatClampNeg)) 48 ∧ (vp_in ((gI σ 8) - 1) 310 ∧ (wp_MO_enter (gA s103 2 ((gA σ 11 (((gI σ 8) - 1).toNatClampNeg)).toNatClampNeg)) (gA s103 12 (((gI σ 8) - 1).toNatClampNeg)) s103 (fun s126 => Q s126))))) ∧ (¬ (gA σ 0 ((gA σ 11 (((gI σ 8) - 1).toNatClampNeg)).toNatClampNeg)) = 14 → (((Op.cmpValue (FP.dcmp (gX s103 0) FP.dconst0) .l) = 0 → (vp_in (gA σ 11 (((gI σ 8) - 1).toNatClampNeg)) 48 ∧ (vp_in ((gI σ 8) - 1) 310 ∧ (wp_MO_enter (gA s103 3 ((gA σ 11 (((gI σ 8) - 1).toNatClampNeg)).toNatClampNeg)) (gA s103 12 (((gI σ 8) - 1).toNatClampNeg)) s103 (fun s129 => Q s129))))) ∧ (¬ (Op.cmpValue (FP.dcmp (gX s103 0) FP.dconst0) .l) = 0 → (vp_in (gA σ 11 (((gI σ 8) - 1).toNatClampNeg)) 48 ∧ (vp_in ((gI σ 8) - 1) 310 ∧ (wp_MO_enter (gA s103 2 ((gA σ 11 (((gI σ 8) - 1).toNatClampNeg)).toNatClampNeg)) (gA s103 12 (((gI σ 8) - 1).toNatClampNeg)) s103 (fun s131 => Q s131))))))))))))) ∧ (¬ (gA σ 13 (((gI σ 8) - 1).toNatClampNeg)) = 1 → (((gA σ 13 (((gI σ 8) - 1).toNatClampNeg)) = 0 → (((gA σ 0 ((gA σ 11 (((gI σ 8) - 1).toNatClampNeg)).toNatClampNeg)) = 17 → (vp_in (gA σ 11 (((gI σ 8) - 1).toNatClampNeg)) 48 ∧ (vp_in ((gI σ 8) - 1) 310 ∧ (wp_MO_enter (gA s103 2 ((gA σ 11 (((gI σ 8) - 1).toNatClampNeg)).toNatClampNeg)) (gA s103 12 (((gI σ 8) - 1).toNatClampNeg)) s103 (fun s121 => Q s121))))) ∧ (¬ (gA σ 0 ((gA σ 11 (((gI σ 8) - 1).toNatClampNeg)).toNatClampNeg)) = 17 → (vp_in ((gI σ 8) - 1) 310 ∧ (wp_MO_enter (gA σ 1 ((gA σ 11 (((gI σ 8) - 1).toNatClampNeg)).toNatClampNeg)) (gA s103 12 (((gI σ 8) - 1).toNatClampNeg)) s103 (fun s119 => Q s119)))))) ∧ (¬ (gA σ 13 (((gI σ 8) - 1).toNatClampNeg)) = 0 → (((gA σ 0 ((gA σ 11 (((gI σ 8) - 1).toNatClampNeg)).toNatClampNeg)) = 14 → (vp_in (gA σ 11 (((gI σ 8) - 1).toNatClampNeg)) 48 ∧ (vp_in ((gI σ 8) - 1) 310 ∧ (wp_MO_enter (gA s103 2 ((gA σ 11 (((gI σ 8) - 1).toNatClampNeg)).toNatClampNeg)) (gA s103 12 (((gI σ 8) - 1).toNatClampNeg)) s103 (fun s111 => Q s111))))) ∧ (¬ (gA σ 0 ((gA σ 11 (((gI σ 8) - 1).toNatClampNeg)).toNatClampNeg)) = 14 → (((Op.cmpValue (FP.dcmp (gX s103 0) FP.dconst0) .l) = 0 → (vp_in (gA σ 11 (((gI σ 8) - 1).toNatClampNeg)) 48 ∧ (vp_in ((gI σ 8) - 1) 310 ∧ (wp_MO_enter (gA s103 3 ((gA σ 11 (((gI σ 8) - 1).toNatClampNeg)).toNatClampNeg)) (gA s103 12 (((gI σ 8) - 1).toNatClampNeg)) s103 (fun s114 => Q s114))))) ∧ (¬ (Op.cmpValue (FP.dcmp (gX s103 0) FP.dconst0) .l) = 0 → (vp_in (gA σ 11 (((gI σ 8) - 1).toNatClampNeg)) 48 ∧ (vp_in ((gI σ 8) - 1) 310 ∧ (wp_MO_enter (gA s103 2 ((gA σ 11 (((gI σ 8) - 1).toNatClampNeg)).toNatClampNeg)) (gA s103 12 (((gI σ 8) - 1).toNatClampNeg)) s103 (fun s116 => Q s116)))))))))))))))))) ∧ (¬ (gA σ 0 ((gA σ 11 (((gI σ 8) - 1).toNatClampNeg)).toNatClampNeg)) = 17 → (wp_MO_pair ((gI σ 8) - 1) (gA σ 11 (((gI σ 8) - 1).toNatClampNeg)) σ (fun s140 => Q s140))))))))))))))))))))))))))))
set_option maxHeartbeats 4000000 in
set_option maxRecDepth 100000 in
theorem c_MO_step {l : Launch} {D : va_G} {cs : CI} {am : Nat → Nat} (hi : aI am 25)  {σ : CS} {Q : CS → Prop} (hq : wp_MO_step  σ Q) : Met l y_MO_step (.code y_MO_step b_MO_step 6 none :: wC) ({ frames := 4, cells := 0, slots := 0, locals := 87 }) (va_Pc [.ref (am 0)] (mP D cs am σ)) (va_Qv Q (mP D cs am) (aK am 25)) 0 0 (aK am 25) := by
  refine Met.ofW (cc := b_MO_step) (maxL := 6) (ret := none) (by decide) rfl ?_
  intro p e s m args below meth c s₁ B hml hv
  obtain ⟨rfl, hP, hK, hN⟩ := hv
  have hx := B.exec
  have hb := B.bytes
  have hr := B.returns
  have hts := atoms_spec (ws := .code y_MO_step b_MO_step 6 none :: wC) B.pre
  have ht : ∀ w ∈ wC, w.before _ s = true := fun w h => hts w (List.mem_cons_of_mem _ h)
  have hown : s.vm.findClass R_MO = some m.cls := findClass_of_methodNamed B.named
  have hlocks := B.notSynchronized
  have hS : va_S (aK am 25) s.heap s.heap [] := va_S.rf
  have hl := lv_entry ([.ref (am 0)]) (n := 6) (Nat.le_of_ble_eq_true rfl)
  rw [lg_entry_eq]
  generalize (lg_sl ([.ref (am 0)]) ++ List.replicate (6 - (lg_sl ([.ref (am 0)])).length) Slot.unset).toArray = ls at hl ⊢
  have hl : lv_has ls 6 [(0, .ref (am 0))] := hl
  unfold wp_MO_step at hq
  have hh8 : 8 < 9 := by decide
  refine lv_aload_n hx hb d_MO_step_0 rfl (lv_at hl 0 rfl) ?_
  refine cw_get (C := R_MO) (T := F_MO) (N := 39) (v := .int (gI σ 8)) hx hb hts (in_MO _) hown hK hP 0 (by decide) rfl rfl 32 (by decide) (ht _ wC_714) rfl d_MO_step_1 ?_
  refine lv_iconst (v := 1) hx hb d_MO_step_4 (by decide) ?_
  refine lv_isub hx hb d_MO_step_5 ?_
  refine lv_istore_n (lv' := [(1, .int ((gI σ 8) - 1)), (0, .ref (am 0))]) hx hb d_MO_step_6 rfl hl (by decide) rfl (fun ls hl => ?_)
  refine lv_aload_n hx hb d_MO_step_7 rfl (lv_at hl 1 rfl) ?_
  refine cw_get (C := R_MO) (T := F_MO) (N := 39) (v := .ref (am 16)) hx hb hts (in_MO _) hown hK hP 0 (by decide) rfl rfl 23 (by decide) (ht _ wC_705) rfl d_MO_step_8 ?_
  refine lv_iload_n hx hb d_MO_step_11 rfl (lv_at hl 0 rfl) ?_
  refine cw_iald hx hb hK hP 16 (by decide) rfl 0 rfl hq.1 d_MO_step_12 ?_
  have hq := hq.2
  refine lv_istore_n (lv' := [(2, .int (gA σ 11 (((gI σ 8) - 1).toNatClampNeg))), (1, .int ((gI σ 8) - 1)), (0, .ref (am 0))]) hx hb d_MO_step_13 rfl hl (by decide) rfl (fun ls hl => ?_)
  refine lv_aload_n hx hb d_MO_step_14 rfl (lv_at hl 2 rfl) ?_
  refine cw_get (C := R_MO) (T := F_MO) (N := 39) (v := .ref (am 1)) hx hb hts (in_MO _) hown hK hP 0 (by decide) rfl rfl 0 (by decide) (ht _ wC_682) rfl d_MO_step_15 ?_
  refine lv_iload_n hx hb d_MO_step_18 rfl (lv_at hl 0 rfl) ?_
  refine cw_iald hx hb hK hP 1 (by decide) rfl 0 rfl hq.1 d_MO_step_19 ?_
  have hq := hq.2
  refine lv_istore_n (lv' := [(3, .int (gA σ 0 ((gA σ 11 (((gI σ 8) - 1).toNatClampNeg)).toNatClampNeg))), (2, .int (gA σ 11 (((gI σ 8) - 1).toNatClampNeg))), (1, .int ((gI σ 8) - 1)), (0, .ref (am 0))]) hx hb d_MO_step_20 rfl hl (by decide) rfl (fun ls hl => ?_)
  refine lv_aload_n hx hb d_MO_step_21 rfl (lv_at hl 3 rfl) ?_
  refine cw_get (C := R_MO) (T := F_MO) (N := 39) (v := .ref (am 2)) hx hb hts (in_MO _) hown hK hP 0 (by decide) rfl rfl 1 (by decide) (ht _ wC_683) rfl d_MO_step_22 ?_
  refine lv_iload_n hx hb d_MO_step_25 rfl (lv_at hl 1 rfl) ?_
  refine cw_iald hx hb hK hP 2 (by decide) rfl 0 rfl hq.1 d_MO_step_26 ?_
  have hq := hq.2
  refine lv_istore (lv' := [(4, .int (gA σ 1 ((gA σ 11 (((gI σ 8) - 1).toNatClampNeg)).toNatClampNeg))), (3, .int (gA σ 0 ((gA σ 11 (((gI σ 8) - 1).toNatClampNeg)).toNatClampNeg))), (2, .int (gA σ 11 (((gI σ 8) - 1).toNatClampNeg))), (1, .int ((gI σ 8) - 1)), (0, .ref (am 0))]) hx hb d_MO_step_27 hl (by decide) rfl (fun ls hl => ?_)
  refine lv_aload_n hx hb d_MO_step_29 rfl (lv_at hl 4 rfl) ?_
  refine cw_get (C := R_MO) (T := F_MO) (N := 39) (v := .ref (am 18)) hx hb hts (in_MO _) hown hK hP 0 (by decide) rfl rfl 25 (by decide) (ht _ wC_707) rfl d_MO_step_30 ?_
  refine lv_iload_n hx hb d_MO_step_33 rfl (lv_at hl 3 rfl) ?_
  refine cw_iald hx hb hK hP 18 (by decide) rfl 0 rfl hq.1 d_MO_step_34 ?_
  have hq := hq.2
  refine lv_istore (lv' := [(5, .int (gA σ 13 (((gI σ 8) - 1).toNatClampNeg))), (4, .int (gA σ 1 ((gA σ 11 (((gI σ 8) - 1).toNatClampNeg)).toNatClampNeg))), (3, .int (gA σ 0 ((gA σ 11 (((gI σ 8) - 1).toNatClampNeg)).toNatClampNeg))), (2, .int (gA σ 11 (((gI σ 8) - 1).toNatClampNeg))), (1, .int ((gI σ 8) - 1)), (0, .ref (am 0))]) hx hb d_MO_step_35 hl (by decide) rfl (fun ls hl => ?_)
  refine lv_iload_n hx hb d_MO_step_37 rfl (lv_at hl 2 rfl) ?_
  by_cases c1 : (gA σ 0 ((gA σ 11 (((gI σ 8) - 1).toNatClampNeg)).toNatClampNeg)) = 0
  · have hq := hq.1 c1
    refine lv_tableIn (tgt := 124) hx hb d_MO_step_38 (by rw [c1]; decide) (by rw [c1]; decide) (by rw [c1]; rfl) (by decide) ?_
    refine lv_aload_n hx hb d_MO_step_124 rfl (lv_at hl 5 rfl) ?_
    refine lv_iload hx hb d_MO_step_125 (lv_at hl 1 rfl) ?_
    refine lv_i2d hx hb d_MO_step_127 ?_
    refine lv_ldc2d hx hb hown (ht _ wC_863) d_MO_step_128 ?_
    refine lv_ddiv hx hb d_MO_step_131 hq.1 ?_
    have hq := hq.2
    refine va_callv (va_runV (As := [.double (FP.ddiv (FP.i2d (gA σ 1 ((gA σ 11 (((gI σ 8) - 1).toNatClampNeg)).toNatClampNeg))) 4620693217682128896)]) (rest := []) ⟨hx, hb, hml, hown, hts⟩ (c_MO_end (D := D) (cs := cs) hi hq) (cwV 1 hts (good_V wC_864 wC_866 wC_29 wC_50 wC_867) rfl rfl rfl (by decide +kernel) ⟨(show 0 + 1 ≤ 4 by omega), (show 8 + (3 + 11) + 0 ≤ 87 by omega)⟩) ⟨mP_blind, va_recv hK hP (ci := 5) (q0 := 0) rfl (wd_at (by decide) rfl), fun U hU hW => ⟨rfl, by rw [hU]; exact hP, va_K.moved hW.alike hK, hN.warm hW⟩⟩ rfl rfl hl.1 rfl (lv_room (Nat.le_of_ble_eq_true rfl)) d_MO_step_132 ⟨Nat.le_of_ble_eq_true rfl, Nat.le_of_ble_eq_true rfl⟩) hS (fun q _ h => h) (fun q h => h) (fun s3 t H locs ht0 hvm hq hB hz1 hk1 hS => ?_)
    obtain ⟨hP, -, -⟩ := hB
    rw [ht0] at hP
    exact W.vret hx hb hr (fun t ht hW => ⟨⟨s3, rfl, hq, by rw [ht]; exact hP, va_K.moved hW.alike hK, hN.warm hW⟩, hS.F ht⟩) hS.2.2 d_MO_step_135
  have hq := hq.2 c1
  by_cases c4 : (gA σ 0 ((gA σ 11 (((gI σ 8) - 1).toNatClampNeg)).toNatClampNeg)) = 1
  · have hq := hq.1 c4
    refine lv_tableIn (tgt := 136) hx hb d_MO_step_38 (by rw [c4]; decide) (by rw [c4]; decide) (by rw [c4]; rfl) (by decide) ?_
    refine lv_aload_n hx hb d_MO_step_136 rfl (lv_at hl 5 rfl) ?_
    refine lv_aload_n hx hb d_MO_step_137 rfl (lv_at hl 5 rfl) ?_
    refine cw_get (C := R_MO) (T := F_MO) (N := 39) (v := .ref (am 8)) hx hb hts (in_MO _) hown hK hP 0 (by decide) rfl rfl 7 (by decide) (ht _ wC_689) rfl d_MO_step_138 ?_
    refine lv_iload hx hb d_MO_step_141 (lv_at hl 1 rfl) ?_
    refine cw_dald hx hb hK hP 8 (by decide) rfl 1 rfl hq.1 d_MO_step_143 ?_
    have hq := hq.2
    refine va_callv (va_runV (As := [.double (gD σ 0 ((gA σ 1 ((gA σ 11 (((gI σ 8) - 1).toNatClampNeg)).toNatClampNeg)).toNatClampNeg))]) (rest := []) ⟨hx, hb, hml, hown, hts⟩ (c_MO_end (D := D) (cs := cs) hi hq) (cwV 1 hts (good_V wC_864 wC_866 wC_29 wC_50 wC_867) rfl rfl rfl (by decide +kernel) ⟨(show 0 + 1 ≤ 4 by omega), (show 8 + (3 + 11) + 0 ≤ 87 by omega)⟩) ⟨mP_blind, va_recv hK hP (ci := 5) (q0 := 0) rfl (wd_at (by decide) rfl), fun U hU hW => ⟨rfl, by rw [hU]; exact hP, va_K.moved hW.alike hK, hN.warm hW⟩⟩ rfl rfl hl.1 rfl (lv_room (Nat.le_of_ble_eq_true rfl)) d_MO_step_144 ⟨Nat.le_of_ble_eq_true rfl, Nat.le_of_ble_eq_true rfl⟩) hS (fun q _ h => h) (fun q h => h) (fun s6 t H locs ht0 hvm hq hB hz1 hk1 hS => ?_)
    obtain ⟨hP, -, -⟩ := hB
    rw [ht0] at hP
    exact W.vret hx hb hr (fun t ht hW => ⟨⟨s6, rfl, hq, by rw [ht]; exact hP, va_K.moved hW.alike hK, hN.warm hW⟩, hS.F ht⟩) hS.2.2 d_MO_step_147
  have hq := hq.2 c4
  by_cases c7 : (gA σ 0 ((gA σ 11 (((gI σ 8) - 1).toNatClampNeg)).toNatClampNeg)) = 9
  · have hq := hq.1 c7
    refine lv_tableIn (tgt := 222) hx hb d_MO_step_38 (by rw [c7]; decide) (by rw [c7]; decide) (by rw [c7]; rfl) (by decide) ?_
    refine lv_aload_n hx hb d_MO_step_222 rfl (lv_at hl 5 rfl) ?_
    refine cw_get (C := R_MO) (T := F_MO) (N := 39) (v := .ref (am 18)) hx hb hts (in_MO _) hown hK hP 0 (by decide) rfl rfl 25 (by decide) (ht _ wC_707) rfl d_MO_step_223 ?_
    refine lv_iload_n hx hb d_MO_step_226 rfl (lv_at hl 4 rfl) ?_
    refine lv_dup2_11 hx hb d_MO_step_227 rfl rfl ?_
    refine cw_iald hx hb hK hP 18 (by decide) rfl 0 rfl hq.1 d_MO_step_228 ?_
    have hq := hq.2
    refine lv_iconst (v := 1) hx hb d_MO_step_229 (by decide) ?_
    refine lv_iadd hx hb d_MO_step_230 ?_
    refine cw_iast hx hb hK hP hi hS 18 (by decide) rfl 0 rfl hq.1 mpa_13 d_MO_step_231 (fun H locs hP hS => ?_)
    have hq := hq.2
    obtain ⟨s8, e_s8⟩ : ∃ z, z = sA σ 13 (upd (gA σ 13) (((gI σ 8) - 1).toNatClampNeg) ((gA σ 13 (((gI σ 8) - 1).toNatClampNeg)) + 1)) := ⟨_, rfl⟩
    rw [← e_s8] at hP
    have hq := hq s8 e_s8
    refine lv_iload hx hb d_MO_step_232 (lv_at hl 0 rfl) ?_
    refine lv_iconst (v := 2) hx hb d_MO_step_234 (by decide) ?_
    refine lv_icmp_eq (tgt := 250) hx hb d_MO_step_235 (by decide) (fun c9 => ?_) (fun c9 => ?_)
    · have hq := hq.1 c9
      refine lv_aload_n hx hb d_MO_step_250 rfl (lv_at hl 5 rfl) ?_
      refine lv_aload_n hx hb d_MO_step_251 rfl (lv_at hl 5 rfl) ?_
      refine cw_get (C := R_MO) (T := F_MO) (N := 39) (v := .double (gX s8 0)) hx hb hts (in_MO _) hown hK hP 0 (by decide) rfl rfl 38 (by decide) (ht _ wC_720) rfl d_MO_step_252 ?_
      refine va_callv (va_runV (As := [.double (gX s8 0)]) (rest := []) ⟨hx, hb, hml, hown, hts⟩ (c_MO_end (D := D) (cs := cs) hi hq) (cwV 1 hts (good_V wC_864 wC_866 wC_29 wC_50 wC_867) rfl rfl rfl (by decide +kernel) ⟨(show 0 + 1 ≤ 4 by omega), (show 8 + (3 + 11) + 0 ≤ 87 by omega)⟩) ⟨mP_blind, va_recv hK hP (ci := 5) (q0 := 0) rfl (wd_at (by decide) rfl), fun U hU hW => ⟨rfl, by rw [hU]; exact hP, va_K.moved hW.alike hK, hN.warm hW⟩⟩ rfl rfl hl.1 rfl (lv_room (Nat.le_of_ble_eq_true rfl)) d_MO_step_255 ⟨Nat.le_of_ble_eq_true rfl, Nat.le_of_ble_eq_true rfl⟩) hS (fun q _ h => h) (fun q h => h) (fun s11 t H locs ht0 hvm hq hB hz1 hk1 hS => ?_)
      obtain ⟨hP, -, -⟩ := hB
      rw [ht0] at hP
      refine lv_goto (tgt := 336) hx hb d_MO_step_258 (by decide) ?_
      exact W.vret hx hb hr (fun t ht hW => ⟨⟨s11, rfl, hq, by rw [ht]; exact hP, va_K.moved hW.alike hK, hN.warm hW⟩, hS.F ht⟩) hS.2.2 d_MO_step_336
    · have hq := hq.2 c9
      refine lv_iload hx hb d_MO_step_238 (lv_at hl 0 rfl) ?_
      refine lv_iconst (v := 1) hx hb d_MO_step_240 (by decide) ?_
      refine lv_icmp_ne (tgt := 261) hx hb d_MO_step_241 (by decide) (fun c12 => ?_) (fun c12 => ?_)
      · have hq := hq.2 c12
        refine lv_iload hx hb d_MO_step_261 (lv_at hl 0 rfl) ?_
        refine lv_if_ne (tgt := 296) hx hb d_MO_step_263 (by decide) (fun c13 => ?_) (fun c13 => ?_)
        · have hq := hq.2 c13
          refine lv_aload_n hx hb d_MO_step_296 rfl (lv_at hl 5 rfl) ?_
          refine lv_iload_n hx hb d_MO_step_297 rfl (lv_at hl 2 rfl) ?_
          refine lv_bipush (v := 14) hx hb d_MO_step_298 (by decide) ?_
          refine lv_icmp_eq (tgt := 312) hx hb d_MO_step_300 (by decide) (fun c14 => ?_) (fun c14 => ?_)
          · have hq := hq.1 c14
            refine lv_aload_n hx hb d_MO_step_312 rfl (lv_at hl 5 rfl) ?_
            refine cw_get (C := R_MO) (T := F_MO) (N := 39) (v := .ref (am 3)) hx hb hts (in_MO _) hown hK hP 0 (by decide) rfl rfl 2 (by decide) (ht _ wC_684) rfl d_MO_step_313 ?_
            refine lv_iload_n hx hb d_MO_step_316 rfl (lv_at hl 3 rfl) ?_
            refine cw_iald hx hb hK hP 3 (by decide) rfl 0 rfl hq.1 d_MO_step_317 ?_
            have hq := hq.2
            refine lv_goto (tgt := 327) hx hb d_MO_step_318 (by decide) ?_
            refine lv_aload_n hx hb d_MO_step_327 rfl (lv_at hl 5 rfl) ?_
            refine cw_get (C := R_MO) (T := F_MO) (N := 39) (v := .ref (am 17)) hx hb hts (in_MO _) hown hK hP 0 (by decide) rfl rfl 24 (by decide) (ht _ wC_706) rfl d_MO_step_328 ?_
            refine lv_iload_n hx hb d_MO_step_331 rfl (lv_at hl 4 rfl) ?_
            refine cw_iald hx hb hK hP 17 (by decide) rfl 0 rfl hq.1 d_MO_step_332 ?_
            have hq := hq.2
            refine va_callv (va_runV (As := [.int (gA s8 2 ((gA σ 11 (((gI σ 8) - 1).toNatClampNeg)).toNatClampNeg)), .int (gA s8 12 (((gI σ 8) - 1).toNatClampNeg))]) (rest := []) ⟨hx, hb, hml, hown, hts⟩ (c_MO_enter (D := D) (cs := cs) hi hq) (cwV 2 hts (good_V wC_851 wC_853 wC_26 wC_50 wC_854) rfl rfl rfl (by decide +kernel) ⟨(show 1 + 1 ≤ 4 by omega), (show 8 + (3 + 11) + 21 ≤ 87 by omega)⟩) ⟨mP_blind, va_recv hK hP (ci := 5) (q0 := 0) rfl (wd_at (by decide) rfl), fun U hU hW => ⟨rfl, by rw [hU]; exact hP, va_K.moved hW.alike hK, hN.warm hW⟩⟩ rfl rfl hl.1 rfl (lv_room (Nat.le_of_ble_eq_true rfl)) d_MO_step_333 ⟨Nat.le_of_ble_eq_true rfl, Nat.le_of_ble_eq_true rfl⟩) hS (fun q _ h => h) (fun q h => h) (fun s16 t H locs ht0 hvm hq hB hz1 hk1 hS => ?_)
            obtain ⟨hP, -, -⟩ := hB
            rw [ht0] at hP
            exact W.vret hx hb hr (fun t ht hW => ⟨⟨s16, rfl, hq, by rw [ht]; exact hP, va_K.moved hW.alike hK, hN.warm hW⟩, hS.F ht⟩) hS.2.2 d_MO_step_336
          · have hq := hq.2 c14
            refine lv_aload_n hx hb d_MO_step_303 rfl (lv_at hl 5 rfl) ?_
            refine cw_get (C := R_MO) (T := F_MO) (N := 39) (v := .double (gX s8 0)) hx hb hts (in_MO _) hown hK hP 0 (by decide) rfl rfl 38 (by decide) (ht _ wC_720) rfl d_MO_step_304 ?_
            refine lv_dconst0 hx hb d_MO_step_307 ?_
            refine lv_dcmp hx hb d_MO_step_308 ?_
            refine lv_if_eq (tgt := 321) hx hb d_MO_step_309 (by decide) (fun c17 => ?_) (fun c17 => ?_)
            · have hq := hq.1 c17
              refine lv_aload_n hx hb d_MO_step_321 rfl (lv_at hl 5 rfl) ?_
              refine cw_get (C := R_MO) (T := F_MO) (N := 39) (v := .ref (am 4)) hx hb hts (in_MO _) hown hK hP 0 (by decide) rfl rfl 3 (by decide) (ht _ wC_685) rfl d_MO_step_322 ?_
              refine lv_iload_n hx hb d_MO_step_325 rfl (lv_at hl 3 rfl) ?_
              refine cw_iald hx hb hK hP 4 (by decide) rfl 0 rfl hq.1 d_MO_step_326 ?_
              have hq := hq.2
              refine lv_aload_n hx hb d_MO_step_327 rfl (lv_at hl 5 rfl) ?_
              refine cw_get (C := R_MO) (T := F_MO) (N := 39) (v := .ref (am 17)) hx hb hts (in_MO _) hown hK hP 0 (by decide) rfl rfl 24 (by decide) (ht _ wC_706) rfl d_MO_step_328 ?_
              refine lv_iload_n hx hb d_MO_step_331 rfl (lv_at hl 4 rfl) ?_
              refine cw_iald hx hb hK hP 17 (by decide) rfl 0 rfl hq.1 d_MO_step_332 ?_
              have hq := hq.2
              refine va_callv (va_runV (As := [.int (gA s8 3 ((gA σ 11 (((gI σ 8) - 1).toNatClampNeg)).toNatClampNeg)), .int (gA s8 12 (((gI σ 8) - 1).toNatClampNeg))]) (rest := []) ⟨hx, hb, hml, hown, hts⟩ (c_MO_enter (D := D) (cs := cs) hi hq) (cwV 2 hts (good_V wC_851 wC_853 wC_26 wC_50 wC_854) rfl rfl rfl (by decide +kernel) ⟨(show 1 + 1 ≤ 4 by omega), (show 8 + (3 + 11) + 21 ≤ 87 by omega)⟩) ⟨mP_blind, va_recv hK hP (ci := 5) (q0 := 0) rfl (wd_at (by decide) rfl), fun U hU hW => ⟨rfl, by rw [hU]; exact hP, va_K.moved hW.alike hK, hN.warm hW⟩⟩ rfl rfl hl.1 rfl (lv_room (Nat.le_of_ble_eq_true rfl)) d_MO_step_333 ⟨Nat.le_of_ble_eq_true rfl, Nat.le_of_ble_eq_true rfl⟩) hS (fun q _ h => h) (fun q h => h) (fun s19 t H locs ht0 hvm hq hB hz1 hk1 hS => ?_)
              obtain ⟨hP, -, -⟩ := hB
              rw [ht0] at hP
              exact W.vret hx hb hr (fun t ht hW => ⟨⟨s19, rfl, hq, by rw [ht]; exact hP, va_K.moved hW.alike hK, hN.warm hW⟩, hS.F ht⟩) hS.2.2 d_MO_step_336
            · have hq := hq.2 c17
              refine lv_aload_n hx hb d_MO_step_312 rfl (lv_at hl 5 rfl) ?_
              refine cw_get (C := R_MO) (T := F_MO) (N := 39) (v := .ref (am 3)) hx hb hts (in_MO _) hown hK hP 0 (by decide) rfl rfl 2 (by decide) (ht _ wC_684) rfl d_MO_step_313 ?_
              refine lv_iload_n hx hb d_MO_step_316 rfl (lv_at hl 3 rfl) ?_
              refine cw_iald hx hb hK hP 3 (by decide) rfl 0 rfl hq.1 d_MO_step_317 ?_
              have hq := hq.2
              refine lv_goto (tgt := 327) hx hb d_MO_step_318 (by decide) ?_
              refine lv_aload_n hx hb d_MO_step_327 rfl (lv_at hl 5 rfl) ?_
              refine cw_get (C := R_MO) (T := F_MO) (N := 39) (v := .ref (am 17)) hx hb hts (in_MO _) hown hK hP 0 (by decide) rfl rfl 24 (by decide) (ht _ wC_706) rfl d_MO_step_328 ?_
              refine lv_iload_n hx hb d_MO_step_331 rfl (lv_at hl 4 rfl) ?_
              refine cw_iald hx hb hK hP 17 (by decide) rfl 0 rfl hq.1 d_MO_step_332 ?_
              have hq := hq.2
              refine va_callv (va_runV (As := [.int (gA s8 2 ((gA σ 11 (((gI σ 8) - 1).toNatClampNeg)).toNatClampNeg)), .int (gA s8 12 (((gI σ 8) - 1).toNatClampNeg))]) (rest := []) ⟨hx, hb, hml, hown, hts⟩ (c_MO_enter (D := D) (cs := cs) hi hq) (cwV 2 hts (good_V wC_851 wC_853 wC_26 wC_50 wC_854) rfl rfl rfl (by decide +kernel) ⟨(show 1 + 1 ≤ 4 by omega), (show 8 + (3 + 11) + 21 ≤ 87 by omega)⟩) ⟨mP_blind, va_recv hK hP (ci := 5) (q0 := 0) rfl (wd_at (by decide) rfl), fun U hU hW => ⟨rfl, by rw [hU]; exact hP, va_K.moved hW.alike hK, hN.warm hW⟩⟩ rfl rfl hl.1 rfl (lv_room (Nat.le_of_ble_eq_true rfl)) d_MO_step_333 ⟨Nat.le_of_ble_eq_true rfl, Nat.le_of_ble_eq_true rfl⟩) hS (fun q _ h => h) (fun q h => h) (fun s21 t H locs ht0 hvm hq hB hz1 hk1 hS => ?_)
              obtain ⟨hP, -, -⟩ := hB
              rw [ht0] at hP
              exact W.vret hx hb hr (fun t ht hW => ⟨⟨s21, rfl, hq, by rw [ht]; exact hP, va_K.moved hW.alike hK, hN.warm hW⟩, hS.F ht⟩) hS.2.2 d_MO_step_336
        · have hq := hq.1 c13
          refine lv_aload_n hx hb d_MO_step_266 rfl (lv_at hl 5 rfl) ?_
          refine lv_iload_n hx hb d_MO_step_267 rfl (lv_at hl 2 rfl) ?_
          refine lv_bipush (v := 17) hx hb d_MO_step_268 (by decide) ?_
          refine lv_icmp_ne (tgt := 282) hx hb d_MO_step_270 (by decide) (fun c22 => ?_) (fun c22 => ?_)
          · have hq := hq.2 c22
            refine lv_iload hx hb d_MO_step_282 (lv_at hl 1 rfl) ?_
            refine lv_aload_n hx hb d_MO_step_284 rfl (lv_at hl 5 rfl) ?_
            refine cw_get (C := R_MO) (T := F_MO) (N := 39) (v := .ref (am 17)) hx hb hts (in_MO _) hown hK hP 0 (by decide) rfl rfl 24 (by decide) (ht _ wC_706) rfl d_MO_step_285 ?_
            refine lv_iload_n hx hb d_MO_step_288 rfl (lv_at hl 4 rfl) ?_
            refine cw_iald hx hb hK hP 17 (by decide) rfl 0 rfl hq.1 d_MO_step_289 ?_
            have hq := hq.2
            refine va_callv (va_runV (As := [.int (gA σ 1 ((gA σ 11 (((gI σ 8) - 1).toNatClampNeg)).toNatClampNeg)), .int (gA s8 12 (((gI σ 8) - 1).toNatClampNeg))]) (rest := []) ⟨hx, hb, hml, hown, hts⟩ (c_MO_enter (D := D) (cs := cs) hi hq) (cwV 2 hts (good_V wC_851 wC_853 wC_26 wC_50 wC_854) rfl rfl rfl (by decide +kernel) ⟨(show 1 + 1 ≤ 4 by omega), (show 8 + (3 + 11) + 21 ≤ 87 by omega)⟩) ⟨mP_blind, va_recv hK hP (ci := 5) (q0 := 0) rfl (wd_at (by decide) rfl), fun U hU hW => ⟨rfl, by rw [hU]; exact hP, va_K.moved hW.alike hK, hN.warm hW⟩⟩ rfl rfl hl.1 rfl (lv_room (Nat.le_of_ble_eq_true rfl)) d_MO_step_290 ⟨Nat.le_of_ble_eq_true rfl, Nat.le_of_ble_eq_true rfl⟩) hS (fun q _ h => h) (fun q h => h) (fun s24 t H locs ht0 hvm hq hB hz1 hk1 hS => ?_)
            obtain ⟨hP, -, -⟩ := hB
            rw [ht0] at hP
            refine lv_goto (tgt := 336) hx hb d_MO_step_293 (by decide) ?_
            exact W.vret hx hb hr (fun t ht hW => ⟨⟨s24, rfl, hq, by rw [ht]; exact hP, va_K.moved hW.alike hK, hN.warm hW⟩, hS.F ht⟩) hS.2.2 d_MO_step_336
          · have hq := hq.1 c22
            refine lv_aload_n hx hb d_MO_step_273 rfl (lv_at hl 5 rfl) ?_
            refine cw_get (C := R_MO) (T := F_MO) (N := 39) (v := .ref (am 3)) hx hb hts (in_MO _) hown hK hP 0 (by decide) rfl rfl 2 (by decide) (ht _ wC_684) rfl d_MO_step_274 ?_
            refine lv_iload_n hx hb d_MO_step_277 rfl (lv_at hl 3 rfl) ?_
            refine cw_iald hx hb hK hP 3 (by decide) rfl 0 rfl hq.1 d_MO_step_278 ?_
            have hq := hq.2
            refine lv_goto (tgt := 284) hx hb d_MO_step_279 (by decide) ?_
            refine lv_aload_n hx hb d_MO_step_284 rfl (lv_at hl 5 rfl) ?_
            refine cw_get (C := R_MO) (T := F_MO) (N := 39) (v := .ref (am 17)) hx hb hts (in_MO _) hown hK hP 0 (by decide) rfl rfl 24 (by decide) (ht _ wC_706) rfl d_MO_step_285 ?_
            refine lv_iload_n hx hb d_MO_step_288 rfl (lv_at hl 4 rfl) ?_
            refine cw_iald hx hb hK hP 17 (by decide) rfl 0 rfl hq.1 d_MO_step_289 ?_
            have hq := hq.2
            refine va_callv (va_runV (As := [.int (gA s8 2 ((gA σ 11 (((gI σ 8) - 1).toNatClampNeg)).toNatClampNeg)), .int (gA s8 12 (((gI σ 8) - 1).toNatClampNeg))]) (rest := []) ⟨hx, hb, hml, hown, hts⟩ (c_MO_enter (D := D) (cs := cs) hi hq) (cwV 2 hts (good_V wC_851 wC_853 wC_26 wC_50 wC_854) rfl rfl rfl (by decide +kernel) ⟨(show 1 + 1 ≤ 4 by omega), (show 8 + (3 + 11) + 21 ≤ 87 by omega)⟩) ⟨mP_blind, va_recv hK hP (ci := 5) (q0 := 0) rfl (wd_at (by decide) rfl), fun U hU hW => ⟨rfl, by rw [hU]; exact hP, va_K.moved hW.alike hK, hN.warm hW⟩⟩ rfl rfl hl.1 rfl (lv_room (Nat.le_of_ble_eq_true rfl)) d_MO_step_290 ⟨Nat.le_of_ble_eq_true rfl, Nat.le_of_ble_eq_true rfl⟩) hS (fun q _ h => h) (fun q h => h) (fun s26 t H locs ht0 hvm hq hB hz1 hk1 hS => ?_)
            obtain ⟨hP, -, -⟩ := hB
            rw [ht0] at hP
            refine lv_goto (tgt := 336) hx hb d_MO_step_293 (by decide) ?_
            exact W.vret hx hb hr (fun t ht hW => ⟨⟨s26, rfl, hq, by rw [ht]; exact hP, va_K.moved hW.alike hK, hN.warm hW⟩, hS.F ht⟩) hS.2.2 d_MO_step_336
      · have hq := hq.1 c12
        refine lv_iload_n hx hb d_MO_step_244 rfl (lv_at hl 2 rfl) ?_
        refine lv_bipush (v := 17) hx hb d_MO_step_245 (by decide) ?_
        refine lv_icmp_ne (tgt := 261) hx hb d_MO_step_247 (by decide) (fun c27 => ?_) (fun c27 => ?_)
        · have hq := hq.2 c27
          refine lv_iload hx hb d_MO_step_261 (lv_at hl 0 rfl) ?_
          refine lv_if_ne (tgt := 296) hx hb d_MO_step_263 (by decide) (fun c28 => ?_) (fun c28 => ?_)
          · have hq := hq.2 c28
            refine lv_aload_n hx hb d_MO_step_296 rfl (lv_at hl 5 rfl) ?_
            refine lv_iload_n hx hb d_MO_step_297 rfl (lv_at hl 2 rfl) ?_
            refine lv_bipush (v := 14) hx hb d_MO_step_298 (by decide) ?_
            refine lv_icmp_eq (tgt := 312) hx hb d_MO_step_300 (by decide) (fun c29 => ?_) (fun c29 => ?_)
            · have hq := hq.1 c29
              refine lv_aload_n hx hb d_MO_step_312 rfl (lv_at hl 5 rfl) ?_
              refine cw_get (C := R_MO) (T := F_MO) (N := 39) (v := .ref (am 3)) hx hb hts (in_MO _) hown hK hP 0 (by decide) rfl rfl 2 (by decide) (ht _ wC_684) rfl d_MO_step_313 ?_
              refine lv_iload_n hx hb d_MO_step_316 rfl (lv_at hl 3 rfl) ?_
              refine cw_iald hx hb hK hP 3 (by decide) rfl 0 rfl hq.1 d_MO_step_317 ?_
              have hq := hq.2
              refine lv_goto (tgt := 327) hx hb d_MO_step_318 (by decide) ?_
              refine lv_aload_n hx hb d_MO_step_327 rfl (lv_at hl 5 rfl) ?_
              refine cw_get (C := R_MO) (T := F_MO) (N := 39) (v := .ref (am 17)) hx hb hts (in_MO _) hown hK hP 0 (by decide) rfl rfl 24 (by decide) (ht _ wC_706) rfl d_MO_step_328 ?_
              refine lv_iload_n hx hb d_MO_step_331 rfl (lv_at hl 4 rfl) ?_
              refine cw_iald hx hb hK hP 17 (by decide) rfl 0 rfl hq.1 d_MO_step_332 ?_
              have hq := hq.2
              refine va_callv (va_runV (As := [.int (gA s8 2 ((gA σ 11 (((gI σ 8) - 1).toNatClampNeg)).toNatClampNeg)), .int (gA s8 12 (((gI σ 8) - 1).toNatClampNeg))]) (rest := []) ⟨hx, hb, hml, hown, hts⟩ (c_MO_enter (D := D) (cs := cs) hi hq) (cwV 2 hts (good_V wC_851 wC_853 wC_26 wC_50 wC_854) rfl rfl rfl (by decide +kernel) ⟨(show 1 + 1 ≤ 4 by omega), (show 8 + (3 + 11) + 21 ≤ 87 by omega)⟩) ⟨mP_blind, va_recv hK hP (ci := 5) (q0 := 0) rfl (wd_at (by decide) rfl), fun U hU hW => ⟨rfl, by rw [hU]; exact hP, va_K.moved hW.alike hK, hN.warm hW⟩⟩ rfl rfl hl.1 rfl (lv_room (Nat.le_of_ble_eq_true rfl)) d_MO_step_333 ⟨Nat.le_of_ble_eq_true rfl, Nat.le_of_ble_eq_true rfl⟩) hS (fun q _ h => h) (fun q h => h) (fun s31 t H locs ht0 hvm hq hB hz1 hk1 hS => ?_)
              obtain ⟨hP, -, -⟩ := hB
              rw [ht0] at hP
              exact W.vret hx hb hr (fun t ht hW => ⟨⟨s31, rfl, hq, by rw [ht]; exact hP, va_K.moved hW.alike hK, hN.warm hW⟩, hS.F ht⟩) hS.2.2 d_MO_step_336
            · have hq := hq.2 c29
              refine lv_aload_n hx hb d_MO_step_303 rfl (lv_at hl 5 rfl) ?_
              refine cw_get (C := R_MO) (T := F_MO) (N := 39) (v := .double (gX s8 0)) hx hb hts (in_MO _) hown hK hP 0 (by decide) rfl rfl 38 (by decide) (ht _ wC_720) rfl d_MO_step_304 ?_
              refine lv_dconst0 hx hb d_MO_step_307 ?_
              refine lv_dcmp hx hb d_MO_step_308 ?_
              refine lv_if_eq (tgt := 321) hx hb d_MO_step_309 (by decide) (fun c32 => ?_) (fun c32 => ?_)
              · have hq := hq.1 c32
                refine lv_aload_n hx hb d_MO_step_321 rfl (lv_at hl 5 rfl) ?_
                refine cw_get (C := R_MO) (T := F_MO) (N := 39) (v := .ref (am 4)) hx hb hts (in_MO _) hown hK hP 0 (by decide) rfl rfl 3 (by decide) (ht _ wC_685) rfl d_MO_step_322 ?_
                refine lv_iload_n hx hb d_MO_step_325 rfl (lv_at hl 3 rfl) ?_
                refine cw_iald hx hb hK hP 4 (by decide) rfl 0 rfl hq.1 d_MO_step_326 ?_
                have hq := hq.2
                refine lv_aload_n hx hb d_MO_step_327 rfl (lv_at hl 5 rfl) ?_
                refine cw_get (C := R_MO) (T := F_MO) (N := 39) (v := .ref (am 17)) hx hb hts (in_MO _) hown hK hP 0 (by decide) rfl rfl 24 (by decide) (ht _ wC_706) rfl d_MO_step_328 ?_
                refine lv_iload_n hx hb d_MO_step_331 rfl (lv_at hl 4 rfl) ?_
                refine cw_iald hx hb hK hP 17 (by decide) rfl 0 rfl hq.1 d_MO_step_332 ?_
                have hq := hq.2
                refine va_callv (va_runV (As := [.int (gA s8 3 ((gA σ 11 (((gI σ 8) - 1).toNatClampNeg)).toNatClampNeg)), .int (gA s8 12 (((gI σ 8) - 1).toNatClampNeg))]) (rest := []) ⟨hx, hb, hml, hown, hts⟩ (c_MO_enter (D := D) (cs := cs) hi hq) (cwV 2 hts (good_V wC_851 wC_853 wC_26 wC_50 wC_854) rfl rfl rfl (by decide +kernel) ⟨(show 1 + 1 ≤ 4 by omega), (show 8 + (3 + 11) + 21 ≤ 87 by omega)⟩) ⟨mP_blind, va_recv hK hP (ci := 5) (q0 := 0) rfl (wd_at (by decide) rfl), fun U hU hW => ⟨rfl, by rw [hU]; exact hP, va_K.moved hW.alike hK, hN.warm hW⟩⟩ rfl rfl hl.1 rfl (lv_room (Nat.le_of_ble_eq_true rfl)) d_MO_step_333 ⟨Nat.le_of_ble_eq_true rfl, Nat.le_of_ble_eq_true rfl⟩) hS (fun q _ h => h) (fun q h => h) (fun s34 t H locs ht0 hvm hq hB hz1 hk1 hS => ?_)
                obtain ⟨hP, -, -⟩ := hB
                rw [ht0] at hP
                exact W.vret hx hb hr (fun t ht hW => ⟨⟨s34, rfl, hq, by rw [ht]; exact hP, va_K.moved hW.alike hK, hN.warm hW⟩, hS.F ht⟩) hS.2.2 d_MO_step_336
              · have hq := hq.2 c32
                refine lv_aload_n hx hb d_MO_step_312 rfl (lv_at hl 5 rfl) ?_
                refine cw_get (C := R_MO) (T := F_MO) (N := 39) (v := .ref (am 3)) hx hb hts (in_MO _) hown hK hP 0 (by decide) rfl rfl 2 (by decide) (ht _ wC_684) rfl d_MO_step_313 ?_
                refine lv_iload_n hx hb d_MO_step_316 rfl (lv_at hl 3 rfl) ?_
                refine cw_iald hx hb hK hP 3 (by decide) rfl 0 rfl hq.1 d_MO_step_317 ?_
                have hq := hq.2
                refine lv_goto (tgt := 327) hx hb d_MO_step_318 (by decide) ?_
                refine lv_aload_n hx hb d_MO_step_327 rfl (lv_at hl 5 rfl) ?_
                refine cw_get (C := R_MO) (T := F_MO) (N := 39) (v := .ref (am 17)) hx hb hts (in_MO _) hown hK hP 0 (by decide) rfl rfl 24 (by decide) (ht _ wC_706) rfl d_MO_step_328 ?_
                refine lv_iload_n hx hb d_MO_step_331 rfl (lv_at hl 4 rfl) ?_
                refine cw_iald hx hb hK hP 17 (by decide) rfl 0 rfl hq.1 d_MO_step_332 ?_
                have hq := hq.2
                refine va_callv (va_runV (As := [.int (gA s8 2 ((gA σ 11 (((gI σ 8) - 1).toNatClampNeg)).toNatClampNeg)), .int (gA s8 12 (((gI σ 8) - 1).toNatClampNeg))]) (rest := []) ⟨hx, hb, hml, hown, hts⟩ (c_MO_enter (D := D) (cs := cs) hi hq) (cwV 2 hts (good_V wC_851 wC_853 wC_26 wC_50 wC_854) rfl rfl rfl (by decide +kernel) ⟨(show 1 + 1 ≤ 4 by omega), (show 8 + (3 + 11) + 21 ≤ 87 by omega)⟩) ⟨mP_blind, va_recv hK hP (ci := 5) (q0 := 0) rfl (wd_at (by decide) rfl), fun U hU hW => ⟨rfl, by rw [hU]; exact hP, va_K.moved hW.alike hK, hN.warm hW⟩⟩ rfl rfl hl.1 rfl (lv_room (Nat.le_of_ble_eq_true rfl)) d_MO_step_333 ⟨Nat.le_of_ble_eq_true rfl, Nat.le_of_ble_eq_true rfl⟩) hS (fun q _ h => h) (fun q h => h) (fun s36 t H locs ht0 hvm hq hB hz1 hk1 hS => ?_)
                obtain ⟨hP, -, -⟩ := hB
                rw [ht0] at hP
                exact W.vret hx hb hr (fun t ht hW => ⟨⟨s36, rfl, hq, by rw [ht]; exact hP, va_K.moved hW.alike hK, hN.warm hW⟩, hS.F ht⟩) hS.2.2 d_MO_step_336
          · have hq := hq.1 c28
            refine lv_aload_n hx hb d_MO_step_266 rfl (lv_at hl 5 rfl) ?_
            refine lv_iload_n hx hb d_MO_step_267 rfl (lv_at hl 2 rfl) ?_
            refine lv_bipush (v := 17) hx hb d_MO_step_268 (by decide) ?_
            refine lv_icmp_ne (tgt := 282) hx hb d_MO_step_270 (by decide) (fun c37 => ?_) (fun c37 => ?_)
            · have hq := hq.2 c37
              refine lv_iload hx hb d_MO_step_282 (lv_at hl 1 rfl) ?_
              refine lv_aload_n hx hb d_MO_step_284 rfl (lv_at hl 5 rfl) ?_
              refine cw_get (C := R_MO) (T := F_MO) (N := 39) (v := .ref (am 17)) hx hb hts (in_MO _) hown hK hP 0 (by decide) rfl rfl 24 (by decide) (ht _ wC_706) rfl d_MO_step_285 ?_
              refine lv_iload_n hx hb d_MO_step_288 rfl (lv_at hl 4 rfl) ?_
              refine cw_iald hx hb hK hP 17 (by decide) rfl 0 rfl hq.1 d_MO_step_289 ?_
              have hq := hq.2
              refine va_callv (va_runV (As := [.int (gA σ 1 ((gA σ 11 (((gI σ 8) - 1).toNatClampNeg)).toNatClampNeg)), .int (gA s8 12 (((gI σ 8) - 1).toNatClampNeg))]) (rest := []) ⟨hx, hb, hml, hown, hts⟩ (c_MO_enter (D := D) (cs := cs) hi hq) (cwV 2 hts (good_V wC_851 wC_853 wC_26 wC_50 wC_854) rfl rfl rfl (by decide +kernel) ⟨(show 1 + 1 ≤ 4 by omega), (show 8 + (3 + 11) + 21 ≤ 87 by omega)⟩) ⟨mP_blind, va_recv hK hP (ci := 5) (q0 := 0) rfl (wd_at (by decide) rfl), fun U hU hW => ⟨rfl, by rw [hU]; exact hP, va_K.moved hW.alike hK, hN.warm hW⟩⟩ rfl rfl hl.1 rfl (lv_room (Nat.le_of_ble_eq_true rfl)) d_MO_step_290 ⟨Nat.le_of_ble_eq_true rfl, Nat.le_of_ble_eq_true rfl⟩) hS (fun q _ h => h) (fun q h => h) (fun s39 t H locs ht0 hvm hq hB hz1 hk1 hS => ?_)
              obtain ⟨hP, -, -⟩ := hB
              rw [ht0] at hP
              refine lv_goto (tgt := 336) hx hb d_MO_step_293 (by decide) ?_
              exact W.vret hx hb hr (fun t ht hW => ⟨⟨s39, rfl, hq, by rw [ht]; exact hP, va_K.moved hW.alike hK, hN.warm hW⟩, hS.F ht⟩) hS.2.2 d_MO_step_336
            · have hq := hq.1 c37
              refine lv_aload_n hx hb d_MO_step_273 rfl (lv_at hl 5 rfl) ?_
              refine cw_get (C := R_MO) (T := F_MO) (N := 39) (v := .ref (am 3)) hx hb hts (in_MO _) hown hK hP 0 (by decide) rfl rfl 2 (by decide) (ht _ wC_684) rfl d_MO_step_274 ?_
              refine lv_iload_n hx hb d_MO_step_277 rfl (lv_at hl 3 rfl) ?_
              refine cw_iald hx hb hK hP 3 (by decide) rfl 0 rfl hq.1 d_MO_step_278 ?_
              have hq := hq.2
              refine lv_goto (tgt := 284) hx hb d_MO_step_279 (by decide) ?_
              refine lv_aload_n hx hb d_MO_step_284 rfl (lv_at hl 5 rfl) ?_
              refine cw_get (C := R_MO) (T := F_MO) (N := 39) (v := .ref (am 17)) hx hb hts (in_MO _) hown hK hP 0 (by decide) rfl rfl 24 (by decide) (ht _ wC_706) rfl d_MO_step_285 ?_
              refine lv_iload_n hx hb d_MO_step_288 rfl (lv_at hl 4 rfl) ?_
              refine cw_iald hx hb hK hP 17 (by decide) rfl 0 rfl hq.1 d_MO_step_289 ?_
              have hq := hq.2
              refine va_callv (va_runV (As := [.int (gA s8 2 ((gA σ 11 (((gI σ 8) - 1).toNatClampNeg)).toNatClampNeg)), .int (gA s8 12 (((gI σ 8) - 1).toNatClampNeg))]) (rest := []) ⟨hx, hb, hml, hown, hts⟩ (c_MO_enter (D := D) (cs := cs) hi hq) (cwV 2 hts (good_V wC_851 wC_853 wC_26 wC_50 wC_854) rfl rfl rfl (by decide +kernel) ⟨(show 1 + 1 ≤ 4 by omega), (show 8 + (3 + 11) + 21 ≤ 87 by omega)⟩) ⟨mP_blind, va_recv hK hP (ci := 5) (q0 := 0) rfl (wd_at (by decide) rfl), fun U hU hW => ⟨rfl, by rw [hU]; exact hP, va_K.moved hW.alike hK, hN.warm hW⟩⟩ rfl rfl hl.1 rfl (lv_room (Nat.le_of_ble_eq_true rfl)) d_MO_step_290 ⟨Nat.le_of_ble_eq_true rfl, Nat.le_of_ble_eq_true rfl⟩) hS (fun q _ h => h) (fun q h => h) (fun s41 t H locs ht0 hvm hq hB hz1 hk1 hS => ?_)
              obtain ⟨hP, -, -⟩ := hB
              rw [ht0] at hP
              refine lv_goto (tgt := 336) hx hb d_MO_step_293 (by decide) ?_
              exact W.vret hx hb hr (fun t ht hW => ⟨⟨s41, rfl, hq, by rw [ht]; exact hP, va_K.moved hW.alike hK, hN.warm hW⟩, hS.F ht⟩) hS.2.2 d_MO_step_336
        · have hq := hq.1 c27
          refine lv_aload_n hx hb d_MO_step_250 rfl (lv_at hl 5 rfl) ?_
          refine lv_aload_n hx hb d_MO_step_251 rfl (lv_at hl 5 rfl) ?_
          refine cw_get (C := R_MO) (T := F_MO) (N := 39) (v := .double (gX s8 0)) hx hb hts (in_MO _) hown hK hP 0 (by decide) rfl rfl 38 (by decide) (ht _ wC_720) rfl d_MO_step_252 ?_
          refine va_callv (va_runV (As := [.double (gX s8 0)]) (rest := []) ⟨hx, hb, hml, hown, hts⟩ (c_MO_end (D := D) (cs := cs) hi hq) (cwV 1 hts (good_V wC_864 wC_866 wC_29 wC_50 wC_867) rfl rfl rfl (by decide +kernel) ⟨(show 0 + 1 ≤ 4 by omega), (show 8 + (3 + 11) + 0 ≤ 87 by omega)⟩) ⟨mP_blind, va_recv hK hP (ci := 5) (q0 := 0) rfl (wd_at (by decide) rfl), fun U hU hW => ⟨rfl, by rw [hU]; exact hP, va_K.moved hW.alike hK, hN.warm hW⟩⟩ rfl rfl hl.1 rfl (lv_room (Nat.le_of_ble_eq_true rfl)) d_MO_step_255 ⟨Nat.le_of_ble_eq_true rfl, Nat.le_of_ble_eq_true rfl⟩) hS (fun q _ h => h) (fun q h => h) (fun s43 t H locs ht0 hvm hq hB hz1 hk1 hS => ?_)
          obtain ⟨hP, -, -⟩ := hB
          rw [ht0] at hP
          refine lv_goto (tgt := 336) hx hb d_MO_step_258 (by decide) ?_
          exact W.vret hx hb hr (fun t ht hW => ⟨⟨s43, rfl, hq, by rw [ht]; exact hP, va_K.moved hW.alike hK, hN.warm hW⟩, hS.F ht⟩) hS.2.2 d_MO_step_336
  have hq := hq.2 c7
  by_cases c44 : (gA σ 0 ((gA σ 11 (((gI σ 8) - 1).toNatClampNeg)).toNatClampNeg)) = 10
  · have hq := hq.1 c44
    refine lv_tableIn (tgt := 148) hx hb d_MO_step_38 (by rw [c44]; decide) (by rw [c44]; decide) (by rw [c44]; rfl) (by decide) ?_
    refine lv_aload_n hx hb d_MO_step_148 rfl (lv_at hl 5 rfl) ?_
    refine lv_iload_n hx hb d_MO_step_149 rfl (lv_at hl 4 rfl) ?_
    refine lv_iload hx hb d_MO_step_150 (lv_at hl 1 rfl) ?_
    refine va_callv (va_runV (As := [.int ((gI σ 8) - 1), .int (gA σ 1 ((gA σ 11 (((gI σ 8) - 1).toNatClampNeg)).toNatClampNeg))]) (rest := []) ⟨hx, hb, hml, hown, hts⟩ (c_MO_parameter (D := D) (cs := cs) hi hq) (cwV 2 hts (good_V wC_868 wC_870 wC_30 wC_50 wC_871) rfl rfl rfl (by decide +kernel) ⟨(show 2 + 1 ≤ 4 by omega), (show 8 + (4 + 11) + 43 ≤ 87 by omega)⟩) ⟨mP_blind, va_recv hK hP (ci := 5) (q0 := 0) rfl (wd_at (by decide) rfl), fun U hU hW => ⟨rfl, by rw [hU]; exact hP, va_K.moved hW.alike hK, hN.warm hW⟩⟩ rfl rfl hl.1 rfl (lv_room (Nat.le_of_ble_eq_true rfl)) d_MO_step_152 ⟨Nat.le_of_ble_eq_true rfl, Nat.le_of_ble_eq_true rfl⟩) hS (fun q _ h => h) (fun q h => h) (fun s46 t H locs ht0 hvm hq hB hz1 hk1 hS => ?_)
    obtain ⟨hP, -, -⟩ := hB
    rw [ht0] at hP
    exact W.vret hx hb hr (fun t ht hW => ⟨⟨s46, rfl, hq, by rw [ht]; exact hP, va_K.moved hW.alike hK, hN.warm hW⟩, hS.F ht⟩) hS.2.2 d_MO_step_155
  have hq := hq.2 c44
  by_cases c47 : (gA σ 0 ((gA σ 11 (((gI σ 8) - 1).toNatClampNeg)).toNatClampNeg)) = 11
  · have hq := hq.1 c47
    refine lv_tableIn (tgt := 156) hx hb d_MO_step_38 (by rw [c47]; decide) (by rw [c47]; decide) (by rw [c47]; rfl) (by decide) ?_
    refine lv_aload_n hx hb d_MO_step_156 rfl (lv_at hl 5 rfl) ?_
    refine cw_get (C := R_MO) (T := F_MO) (N := 39) (v := .ref (am 17)) hx hb hts (in_MO _) hown hK hP 0 (by decide) rfl rfl 24 (by decide) (ht _ wC_706) rfl d_MO_step_157 ?_
    refine lv_iload_n hx hb d_MO_step_160 rfl (lv_at hl 4 rfl) ?_
    refine cw_iald hx hb hK hP 17 (by decide) rfl 0 rfl hq.1 d_MO_step_161 ?_
    have hq := hq.2
    refine lv_if_ne (tgt := 173) hx hb d_MO_step_162 (by decide) (fun c48 => ?_) (fun c48 => ?_)
    · have hq := hq.2 c48
      refine lv_aload_n hx hb d_MO_step_173 rfl (lv_at hl 5 rfl) ?_
      refine lv_aload_n hx hb d_MO_step_174 rfl (lv_at hl 5 rfl) ?_
      refine cw_get (C := R_MO) (T := F_MO) (N := 39) (v := .ref (am 15)) hx hb hts (in_MO _) hown hK hP 0 (by decide) rfl rfl 20 (by decide) (ht _ wC_702) rfl d_MO_step_175 ?_
      refine lv_iconst (v := 2) hx hb d_MO_step_178 (by decide) ?_
      refine lv_aload_n hx hb d_MO_step_179 rfl (lv_at hl 5 rfl) ?_
      refine cw_get (C := R_MO) (T := F_MO) (N := 39) (v := .ref (am 17)) hx hb hts (in_MO _) hown hK hP 0 (by decide) rfl rfl 24 (by decide) (ht _ wC_706) rfl d_MO_step_180 ?_
      refine lv_iload_n hx hb d_MO_step_183 rfl (lv_at hl 4 rfl) ?_
      refine cw_iald hx hb hK hP 17 (by decide) rfl 0 rfl hq.1 d_MO_step_184 ?_
      have hq := hq.2
      refine lv_imul hx hb d_MO_step_185 ?_
      refine lv_iload hx hb d_MO_step_186 (lv_at hl 1 rfl) ?_
      refine lv_iadd hx hb d_MO_step_188 ?_
      refine cw_dald hx hb hK hP 15 (by decide) rfl 1 rfl hq.1 d_MO_step_189 ?_
      have hq := hq.2
      refine va_callv (va_runV (As := [.double (gD σ 3 (((2 * (gA σ 12 (((gI σ 8) - 1).toNatClampNeg))) + (gA σ 1 ((gA σ 11 (((gI σ 8) - 1).toNatClampNeg)).toNatClampNeg))).toNatClampNeg))]) (rest := []) ⟨hx, hb, hml, hown, hts⟩ (c_MO_end (D := D) (cs := cs) hi hq) (cwV 1 hts (good_V wC_864 wC_866 wC_29 wC_50 wC_867) rfl rfl rfl (by decide +kernel) ⟨(show 0 + 1 ≤ 4 by omega), (show 8 + (3 + 11) + 0 ≤ 87 by omega)⟩) ⟨mP_blind, va_recv hK hP (ci := 5) (q0 := 0) rfl (wd_at (by decide) rfl), fun U hU hW => ⟨rfl, by rw [hU]; exact hP, va_K.moved hW.alike hK, hN.warm hW⟩⟩ rfl rfl hl.1 rfl (lv_room (Nat.le_of_ble_eq_true rfl)) d_MO_step_190 ⟨Nat.le_of_ble_eq_true rfl, Nat.le_of_ble_eq_true rfl⟩) hS (fun q _ h => h) (fun q h => h) (fun s50 t H locs ht0 hvm hq hB hz1 hk1 hS => ?_)
      obtain ⟨hP, -, -⟩ := hB
      rw [ht0] at hP
      exact W.vret hx hb hr (fun t ht hW => ⟨⟨s50, rfl, hq, by rw [ht]; exact hP, va_K.moved hW.alike hK, hN.warm hW⟩, hS.F ht⟩) hS.2.2 d_MO_step_193
    · have hq := hq.1 c48
      refine lv_aload_n hx hb d_MO_step_165 rfl (lv_at hl 5 rfl) ?_
      refine lv_iconst (v := 4) hx hb d_MO_step_166 (by decide) ?_
      refine va_callv (va_runV (As := [.int 4]) (rest := []) ⟨hx, hb, hml, hown, hts⟩ (c_MO_wrong (D := D) (cs := cs) hi hq) (cwV 1 hts (good_V wC_855 wC_857 wC_27 wC_50 wC_858) rfl rfl rfl (by decide +kernel) ⟨(show 0 + 1 ≤ 4 by omega), (show 8 + (2 + 11) + 0 ≤ 87 by omega)⟩) ⟨mP_blind, va_recv hK hP (ci := 5) (q0 := 0) rfl (wd_at (by decide) rfl), fun U hU hW => ⟨rfl, by rw [hU]; exact hP, va_K.moved hW.alike hK, hN.warm hW⟩⟩ rfl rfl hl.1 rfl (lv_room (Nat.le_of_ble_eq_true rfl)) d_MO_step_167 ⟨Nat.le_of_ble_eq_true rfl, Nat.le_of_ble_eq_true rfl⟩) hS (fun q _ h => h) (fun q h => h) (fun s52 t H locs ht0 hvm hq hB hz1 hk1 hS => ?_)
      obtain ⟨hP, -, -⟩ := hB
      rw [ht0] at hP
      refine lv_goto (tgt := 193) hx hb d_MO_step_170 (by decide) ?_
      exact W.vret hx hb hr (fun t ht hW => ⟨⟨s52, rfl, hq, by rw [ht]; exact hP, va_K.moved hW.alike hK, hN.warm hW⟩, hS.F ht⟩) hS.2.2 d_MO_step_193
  have hq := hq.2 c47
  by_cases c53 : (gA σ 0 ((gA σ 11 (((gI σ 8) - 1).toNatClampNeg)).toNatClampNeg)) = 12
  · have hq := hq.1 c53
    refine lv_tableIn (tgt := 194) hx hb d_MO_step_38 (by rw [c53]; decide) (by rw [c53]; decide) (by rw [c53]; rfl) (by decide) ?_
    refine lv_aload_n hx hb d_MO_step_194 rfl (lv_at hl 5 rfl) ?_
    refine lv_iload_n hx hb d_MO_step_195 rfl (lv_at hl 4 rfl) ?_
    refine lv_iload_n hx hb d_MO_step_196 rfl (lv_at hl 3 rfl) ?_
    refine va_callv (va_runV (As := [.int ((gI σ 8) - 1), .int (gA σ 11 (((gI σ 8) - 1).toNatClampNeg))]) (rest := []) ⟨hx, hb, hml, hown, hts⟩ (c_MO_call (D := D) (cs := cs) hi hq) (cwV 2 hts (good_V wC_884 wC_886 wC_34 wC_50 wC_887) rfl rfl rfl (by decide +kernel) ⟨(show 2 + 1 ≤ 4 by omega), (show 8 + (7 + 11) + 43 ≤ 87 by omega)⟩) ⟨mP_blind, va_recv hK hP (ci := 5) (q0 := 0) rfl (wd_at (by decide) rfl), fun U hU hW => ⟨rfl, by rw [hU]; exact hP, va_K.moved hW.alike hK, hN.warm hW⟩⟩ rfl rfl hl.1 rfl (lv_room (Nat.le_of_ble_eq_true rfl)) d_MO_step_197 ⟨Nat.le_of_ble_eq_true rfl, Nat.le_of_ble_eq_true rfl⟩) hS (fun q _ h => h) (fun q h => h) (fun s55 t H locs ht0 hvm hq hB hz1 hk1 hS => ?_)
    obtain ⟨hP, -, -⟩ := hB
    rw [ht0] at hP
    exact W.vret hx hb hr (fun t ht hW => ⟨⟨s55, rfl, hq, by rw [ht]; exact hP, va_K.moved hW.alike hK, hN.warm hW⟩, hS.F ht⟩) hS.2.2 d_MO_step_200
  have hq := hq.2 c53
  by_cases c56 : (gA σ 0 ((gA σ 11 (((gI σ 8) - 1).toNatClampNeg)).toNatClampNeg)) = 13
  · have hq := hq.1 c56
    refine lv_tableIn (tgt := 201) hx hb d_MO_step_38 (by rw [c56]; decide) (by rw [c56]; decide) (by rw [c56]; rfl) (by decide) ?_
    refine lv_aload_n hx hb d_MO_step_201 rfl (lv_at hl 5 rfl) ?_
    refine lv_iload_n hx hb d_MO_step_202 rfl (lv_at hl 4 rfl) ?_
    refine lv_iload_n hx hb d_MO_step_203 rfl (lv_at hl 3 rfl) ?_
    refine va_callv (va_runV (As := [.int ((gI σ 8) - 1), .int (gA σ 11 (((gI σ 8) - 1).toNatClampNeg))]) (rest := []) ⟨hx, hb, hml, hown, hts⟩ (c_MO_set (D := D) (cs := cs) hi hq) (cwV 2 hts (good_V wC_888 wC_890 wC_35 wC_50 wC_891) rfl rfl rfl (by decide +kernel) ⟨(show 3 + 1 ≤ 4 by omega), (show 8 + (4 + 11) + 64 ≤ 87 by omega)⟩) ⟨mP_blind, va_recv hK hP (ci := 5) (q0 := 0) rfl (wd_at (by decide) rfl), fun U hU hW => ⟨rfl, by rw [hU]; exact hP, va_K.moved hW.alike hK, hN.warm hW⟩⟩ rfl rfl hl.1 rfl (lv_room (Nat.le_of_ble_eq_true rfl)) d_MO_step_204 ⟨Nat.le_of_ble_eq_true rfl, Nat.le_of_ble_eq_true rfl⟩) hS (fun q _ h => h) (fun q h => h) (fun s58 t H locs ht0 hvm hq hB hz1 hk1 hS => ?_)
    obtain ⟨hP, -, -⟩ := hB
    rw [ht0] at hP
    exact W.vret hx hb hr (fun t ht hW => ⟨⟨s58, rfl, hq, by rw [ht]; exact hP, va_K.moved hW.alike hK, hN.warm hW⟩, hS.F ht⟩) hS.2.2 d_MO_step_207
  have hq := hq.2 c56
  by_cases c59 : (gA σ 0 ((gA σ 11 (((gI σ 8) - 1).toNatClampNeg)).toNatClampNeg)) = 14
  · have hq := hq.1 c59
    refine lv_tableIn (tgt := 222) hx hb d_MO_step_38 (by rw [c59]; decide) (by rw [c59]; decide) (by rw [c59]; rfl) (by decide) ?_
    refine lv_aload_n hx hb d_MO_step_222 rfl (lv_at hl 5 rfl) ?_
    refine cw_get (C := R_MO) (T := F_MO) (N := 39) (v := .ref (am 18)) hx hb hts (in_MO _) hown hK hP 0 (by decide) rfl rfl 25 (by decide) (ht _ wC_707) rfl d_MO_step_223 ?_
    refine lv_iload_n hx hb d_MO_step_226 rfl (lv_at hl 4 rfl) ?_
    refine lv_dup2_11 hx hb d_MO_step_227 rfl rfl ?_
    refine cw_iald hx hb hK hP 18 (by decide) rfl 0 rfl hq.1 d_MO_step_228 ?_
    have hq := hq.2
    refine lv_iconst (v := 1) hx hb d_MO_step_229 (by decide) ?_
    refine lv_iadd hx hb d_MO_step_230 ?_
    refine cw_iast hx hb hK hP hi hS 18 (by decide) rfl 0 rfl hq.1 mpa_13 d_MO_step_231 (fun H locs hP hS => ?_)
    have hq := hq.2
    obtain ⟨s60, e_s60⟩ : ∃ z, z = sA σ 13 (upd (gA σ 13) (((gI σ 8) - 1).toNatClampNeg) ((gA σ 13 (((gI σ 8) - 1).toNatClampNeg)) + 1)) := ⟨_, rfl⟩
    rw [← e_s60] at hP
    have hq := hq s60 e_s60
    refine lv_iload hx hb d_MO_step_232 (lv_at hl 0 rfl) ?_
    refine lv_iconst (v := 2) hx hb d_MO_step_234 (by decide) ?_
    refine lv_icmp_eq (tgt := 250) hx hb d_MO_step_235 (by decide) (fun c61 => ?_) (fun c61 => ?_)
    · have hq := hq.1 c61
      refine lv_aload_n hx hb d_MO_step_250 rfl (lv_at hl 5 rfl) ?_
      refine lv_aload_n hx hb d_MO_step_251 rfl (lv_at hl 5 rfl) ?_
      refine cw_get (C := R_MO) (T := F_MO) (N := 39) (v := .double (gX s60 0)) hx hb hts (in_MO _) hown hK hP 0 (by decide) rfl rfl 38 (by decide) (ht _ wC_720) rfl d_MO_step_252 ?_
      refine va_callv (va_runV (As := [.double (gX s60 0)]) (rest := []) ⟨hx, hb, hml, hown, hts⟩ (c_MO_end (D := D) (cs := cs) hi hq) (cwV 1 hts (good_V wC_864 wC_866 wC_29 wC_50 wC_867) rfl rfl rfl (by decide +kernel) ⟨(show 0 + 1 ≤ 4 by omega), (show 8 + (3 + 11) + 0 ≤ 87 by omega)⟩) ⟨mP_blind, va_recv hK hP (ci := 5) (q0 := 0) rfl (wd_at (by decide) rfl), fun U hU hW => ⟨rfl, by rw [hU]; exact hP, va_K.moved hW.alike hK, hN.warm hW⟩⟩ rfl rfl hl.1 rfl (lv_room (Nat.le_of_ble_eq_true rfl)) d_MO_step_255 ⟨Nat.le_of_ble_eq_true rfl, Nat.le_of_ble_eq_true rfl⟩) hS (fun q _ h => h) (fun q h => h) (fun s63 t H locs ht0 hvm hq hB hz1 hk1 hS => ?_)
      obtain ⟨hP, -, -⟩ := hB
      rw [ht0] at hP
      refine lv_goto (tgt := 336) hx hb d_MO_step_258 (by decide) ?_
      exact W.vret hx hb hr (fun t ht hW => ⟨⟨s63, rfl, hq, by rw [ht]; exact hP, va_K.moved hW.alike hK, hN.warm hW⟩, hS.F ht⟩) hS.2.2 d_MO_step_336
    · have hq := hq.2 c61
      refine lv_iload hx hb d_MO_step_238 (lv_at hl 0 rfl) ?_
      refine lv_iconst (v := 1) hx hb d_MO_step_240 (by decide) ?_
      refine lv_icmp_ne (tgt := 261) hx hb d_MO_step_241 (by decide) (fun c64 => ?_) (fun c64 => ?_)
      · have hq := hq.2 c64
        refine lv_iload hx hb d_MO_step_261 (lv_at hl 0 rfl) ?_
        refine lv_if_ne (tgt := 296) hx hb d_MO_step_263 (by decide) (fun c65 => ?_) (fun c65 => ?_)
        · have hq := hq.2 c65
          refine lv_aload_n hx hb d_MO_step_296 rfl (lv_at hl 5 rfl) ?_
          refine lv_iload_n hx hb d_MO_step_297 rfl (lv_at hl 2 rfl) ?_
          refine lv_bipush (v := 14) hx hb d_MO_step_298 (by decide) ?_
          refine lv_icmp_eq (tgt := 312) hx hb d_MO_step_300 (by decide) (fun c66 => ?_) (fun c66 => ?_)
          · have hq := hq.1 c66
            refine lv_aload_n hx hb d_MO_step_312 rfl (lv_at hl 5 rfl) ?_
            refine cw_get (C := R_MO) (T := F_MO) (N := 39) (v := .ref (am 3)) hx hb hts (in_MO _) hown hK hP 0 (by decide) rfl rfl 2 (by decide) (ht _ wC_684) rfl d_MO_step_313 ?_
            refine lv_iload_n hx hb d_MO_step_316 rfl (lv_at hl 3 rfl) ?_
            refine cw_iald hx hb hK hP 3 (by decide) rfl 0 rfl hq.1 d_MO_step_317 ?_
            have hq := hq.2
            refine lv_goto (tgt := 327) hx hb d_MO_step_318 (by decide) ?_
            refine lv_aload_n hx hb d_MO_step_327 rfl (lv_at hl 5 rfl) ?_
            refine cw_get (C := R_MO) (T := F_MO) (N := 39) (v := .ref (am 17)) hx hb hts (in_MO _) hown hK hP 0 (by decide) rfl rfl 24 (by decide) (ht _ wC_706) rfl d_MO_step_328 ?_
            refine lv_iload_n hx hb d_MO_step_331 rfl (lv_at hl 4 rfl) ?_
            refine cw_iald hx hb hK hP 17 (by decide) rfl 0 rfl hq.1 d_MO_step_332 ?_
            have hq := hq.2
            refine va_callv (va_runV (As := [.int (gA s60 2 ((gA σ 11 (((gI σ 8) - 1).toNatClampNeg)).toNatClampNeg)), .int (gA s60 12 (((gI σ 8) - 1).toNatClampNeg))]) (rest := []) ⟨hx, hb, hml, hown, hts⟩ (c_MO_enter (D := D) (cs := cs) hi hq) (cwV 2 hts (good_V wC_851 wC_853 wC_26 wC_50 wC_854) rfl rfl rfl (by decide +kernel) ⟨(show 1 + 1 ≤ 4 by omega), (show 8 + (3 + 11) + 21 ≤ 87 by omega)⟩) ⟨mP_blind, va_recv hK hP (ci := 5) (q0 := 0) rfl (wd_at (by decide) rfl), fun U hU hW => ⟨rfl, by rw [hU]; exact hP, va_K.moved hW.alike hK, hN.warm hW⟩⟩ rfl rfl hl.1 rfl (lv_room (Nat.le_of_ble_eq_true rfl)) d_MO_step_333 ⟨Nat.le_of_ble_eq_true rfl, Nat.le_of_ble_eq_true rfl⟩) hS (fun q _ h => h) (fun q h => h) (fun s68 t H locs ht0 hvm hq hB hz1 hk1 hS => ?_)
            obtain ⟨hP, -, -⟩ := hB
            rw [ht0] at hP
            exact W.vret hx hb hr (fun t ht hW => ⟨⟨s68, rfl, hq, by rw [ht]; exact hP, va_K.moved hW.alike hK, hN.warm hW⟩, hS.F ht⟩) hS.2.2 d_MO_step_336
          · have hq := hq.2 c66
            refine lv_aload_n hx hb d_MO_step_303 rfl (lv_at hl 5 rfl) ?_
            refine cw_get (C := R_MO) (T := F_MO) (N := 39) (v := .double (gX s60 0)) hx hb hts (in_MO _) hown hK hP 0 (by decide) rfl rfl 38 (by decide) (ht _ wC_720) rfl d_MO_step_304 ?_
            refine lv_dconst0 hx hb d_MO_step_307 ?_
            refine lv_dcmp hx hb d_MO_step_308 ?_
            refine lv_if_eq (tgt := 321) hx hb d_MO_step_309 (by decide) (fun c69 => ?_) (fun c69 => ?_)
            · have hq := hq.1 c69
              refine lv_aload_n hx hb d_MO_step_321 rfl (lv_at hl 5 rfl) ?_
              refine cw_get (C := R_MO) (T := F_MO) (N := 39) (v := .ref (am 4)) hx hb hts (in_MO _) hown hK hP 0 (by decide) rfl rfl 3 (by decide) (ht _ wC_685) rfl d_MO_step_322 ?_
              refine lv_iload_n hx hb d_MO_step_325 rfl (lv_at hl 3 rfl) ?_
              refine cw_iald hx hb hK hP 4 (by decide) rfl 0 rfl hq.1 d_MO_step_326 ?_
              have hq := hq.2
              refine lv_aload_n hx hb d_MO_step_327 rfl (lv_at hl 5 rfl) ?_
              refine cw_get (C := R_MO) (T := F_MO) (N := 39) (v := .ref (am 17)) hx hb hts (in_MO _) hown hK hP 0 (by decide) rfl rfl 24 (by decide) (ht _ wC_706) rfl d_MO_step_328 ?_
              refine lv_iload_n hx hb d_MO_step_331 rfl (lv_at hl 4 rfl) ?_
              refine cw_iald hx hb hK hP 17 (by decide) rfl 0 rfl hq.1 d_MO_step_332 ?_
              have hq := hq.2
              refine va_callv (va_runV (As := [.int (gA s60 3 ((gA σ 11 (((gI σ 8) - 1).toNatClampNeg)).toNatClampNeg)), .int (gA s60 12 (((gI σ 8) - 1).toNatClampNeg))]) (rest := []) ⟨hx, hb, hml, hown, hts⟩ (c_MO_enter (D := D) (cs := cs) hi hq) (cwV 2 hts (good_V wC_851 wC_853 wC_26 wC_50 wC_854) rfl rfl rfl (by decide +kernel) ⟨(show 1 + 1 ≤ 4 by omega), (show 8 + (3 + 11) + 21 ≤ 87 by omega)⟩) ⟨mP_blind, va_recv hK hP (ci := 5) (q0 := 0) rfl (wd_at (by decide) rfl), fun U hU hW => ⟨rfl, by rw [hU]; exact hP, va_K.moved hW.alike hK, hN.warm hW⟩⟩ rfl rfl hl.1 rfl (lv_room (Nat.le_of_ble_eq_true rfl)) d_MO_step_333 ⟨Nat.le_of_ble_eq_true rfl, Nat.le_of_ble_eq_true rfl⟩) hS (fun q _ h => h) (fun q h => h) (fun s71 t H locs ht0 hvm hq hB hz1 hk1 hS => ?_)
              obtain ⟨hP, -, -⟩ := hB
              rw [ht0] at hP
              exact W.vret hx hb hr (fun t ht hW => ⟨⟨s71, rfl, hq, by rw [ht]; exact hP, va_K.moved hW.alike hK, hN.warm hW⟩, hS.F ht⟩) hS.2.2 d_MO_step_336
            · have hq := hq.2 c69
              refine lv_aload_n hx hb d_MO_step_312 rfl (lv_at hl 5 rfl) ?_
              refine cw_get (C := R_MO) (T := F_MO) (N := 39) (v := .ref (am 3)) hx hb hts (in_MO _) hown hK hP 0 (by decide) rfl rfl 2 (by decide) (ht _ wC_684) rfl d_MO_step_313 ?_
              refine lv_iload_n hx hb d_MO_step_316 rfl (lv_at hl 3 rfl) ?_
              refine cw_iald hx hb hK hP 3 (by decide) rfl 0 rfl hq.1 d_MO_step_317 ?_
              have hq := hq.2
              refine lv_goto (tgt := 327) hx hb d_MO_step_318 (by decide) ?_
              refine lv_aload_n hx hb d_MO_step_327 rfl (lv_at hl 5 rfl) ?_
              refine cw_get (C := R_MO) (T := F_MO) (N := 39) (v := .ref (am 17)) hx hb hts (in_MO _) hown hK hP 0 (by decide) rfl rfl 24 (by decide) (ht _ wC_706) rfl d_MO_step_328 ?_
              refine lv_iload_n hx hb d_MO_step_331 rfl (lv_at hl 4 rfl) ?_
              refine cw_iald hx hb hK hP 17 (by decide) rfl 0 rfl hq.1 d_MO_step_332 ?_
              have hq := hq.2
              refine va_callv (va_runV (As := [.int (gA s60 2 ((gA σ 11 (((gI σ 8) - 1).toNatClampNeg)).toNatClampNeg)), .int (gA s60 12 (((gI σ 8) - 1).toNatClampNeg))]) (rest := []) ⟨hx, hb, hml, hown, hts⟩ (c_MO_enter (D := D) (cs := cs) hi hq) (cwV 2 hts (good_V wC_851 wC_853 wC_26 wC_50 wC_854) rfl rfl rfl (by decide +kernel) ⟨(show 1 + 1 ≤ 4 by omega), (show 8 + (3 + 11) + 21 ≤ 87 by omega)⟩) ⟨mP_blind, va_recv hK hP (ci := 5) (q0 := 0) rfl (wd_at (by decide) rfl), fun U hU hW => ⟨rfl, by rw [hU]; exact hP, va_K.moved hW.alike hK, hN.warm hW⟩⟩ rfl rfl hl.1 rfl (lv_room (Nat.le_of_ble_eq_true rfl)) d_MO_step_333 ⟨Nat.le_of_ble_eq_true rfl, Nat.le_of_ble_eq_true rfl⟩) hS (fun q _ h => h) (fun q h => h) (fun s73 t H locs ht0 hvm hq hB hz1 hk1 hS => ?_)
              obtain ⟨hP, -, -⟩ := hB
              rw [ht0] at hP
              exact W.vret hx hb hr (fun t ht hW => ⟨⟨s73, rfl, hq, by rw [ht]; exact hP, va_K.moved hW.alike hK, hN.warm hW⟩, hS.F ht⟩) hS.2.2 d_MO_step_336
        · have hq := hq.1 c65
          refine lv_aload_n hx hb d_MO_step_266 rfl (lv_at hl 5 rfl) ?_
          refine lv_iload_n hx hb d_MO_step_267 rfl (lv_at hl 2 rfl) ?_
          refine lv_bipush (v := 17) hx hb d_MO_step_268 (by decide) ?_
          refine lv_icmp_ne (tgt := 282) hx hb d_MO_step_270 (by decide) (fun c74 => ?_) (fun c74 => ?_)
          · have hq := hq.2 c74
            refine lv_iload hx hb d_MO_step_282 (lv_at hl 1 rfl) ?_
            refine lv_aload_n hx hb d_MO_step_284 rfl (lv_at hl 5 rfl) ?_
            refine cw_get (C := R_MO) (T := F_MO) (N := 39) (v := .ref (am 17)) hx hb hts (in_MO _) hown hK hP 0 (by decide) rfl rfl 24 (by decide) (ht _ wC_706) rfl d_MO_step_285 ?_
            refine lv_iload_n hx hb d_MO_step_288 rfl (lv_at hl 4 rfl) ?_
            refine cw_iald hx hb hK hP 17 (by decide) rfl 0 rfl hq.1 d_MO_step_289 ?_
            have hq := hq.2
            refine va_callv (va_runV (As := [.int (gA σ 1 ((gA σ 11 (((gI σ 8) - 1).toNatClampNeg)).toNatClampNeg)), .int (gA s60 12 (((gI σ 8) - 1).toNatClampNeg))]) (rest := []) ⟨hx, hb, hml, hown, hts⟩ (c_MO_enter (D := D) (cs := cs) hi hq) (cwV 2 hts (good_V wC_851 wC_853 wC_26 wC_50 wC_854) rfl rfl rfl (by decide +kernel) ⟨(show 1 + 1 ≤ 4 by omega), (show 8 + (3 + 11) + 21 ≤ 87 by omega)⟩) ⟨mP_blind, va_recv hK hP (ci := 5) (q0 := 0) rfl (wd_at (by decide) rfl), fun U hU hW => ⟨rfl, by rw [hU]; exact hP, va_K.moved hW.alike hK, hN.warm hW⟩⟩ rfl rfl hl.1 rfl (lv_room (Nat.le_of_ble_eq_true rfl)) d_MO_step_290 ⟨Nat.le_of_ble_eq_true rfl, Nat.le_of_ble_eq_true rfl⟩) hS (fun q _ h => h) (fun q h => h) (fun s76 t H locs ht0 hvm hq hB hz1 hk1 hS => ?_)
            obtain ⟨hP, -, -⟩ := hB
            rw [ht0] at hP
            refine lv_goto (tgt := 336) hx hb d_MO_step_293 (by decide) ?_
            exact W.vret hx hb hr (fun t ht hW => ⟨⟨s76, rfl, hq, by rw [ht]; exact hP, va_K.moved hW.alike hK, hN.warm hW⟩, hS.F ht⟩) hS.2.2 d_MO_step_336
          · have hq := hq.1 c74
            refine lv_aload_n hx hb d_MO_step_273 rfl (lv_at hl 5 rfl) ?_
            refine cw_get (C := R_MO) (T := F_MO) (N := 39) (v := .ref (am 3)) hx hb hts (in_MO _) hown hK hP 0 (by decide) rfl rfl 2 (by decide) (ht _ wC_684) rfl d_MO_step_274 ?_
            refine lv_iload_n hx hb d_MO_step_277 rfl (lv_at hl 3 rfl) ?_
            refine cw_iald hx hb hK hP 3 (by decide) rfl 0 rfl hq.1 d_MO_step_278 ?_
            have hq := hq.2
            refine lv_goto (tgt := 284) hx hb d_MO_step_279 (by decide) ?_
            refine lv_aload_n hx hb d_MO_step_284 rfl (lv_at hl 5 rfl) ?_
            refine cw_get (C := R_MO) (T := F_MO) (N := 39) (v := .ref (am 17)) hx hb hts (in_MO _) hown hK hP 0 (by decide) rfl rfl 24 (by decide) (ht _ wC_706) rfl d_MO_step_285 ?_
            refine lv_iload_n hx hb d_MO_step_288 rfl (lv_at hl 4 rfl) ?_
            refine cw_iald hx hb hK hP 17 (by decide) rfl 0 rfl hq.1 d_MO_step_289 ?_
            have hq := hq.2
            refine va_callv (va_runV (As := [.int (gA s60 2 ((gA σ 11 (((gI σ 8) - 1).toNatClampNeg)).toNatClampNeg)), .int (gA s60 12 (((gI σ 8) - 1).toNatClampNeg))]) (rest := []) ⟨hx, hb, hml, hown, hts⟩ (c_MO_enter (D := D) (cs := cs) hi hq) (cwV 2 hts (good_V wC_851 wC_853 wC_26 wC_50 wC_854) rfl rfl rfl (by decide +kernel) ⟨(show 1 + 1 ≤ 4 by omega), (show 8 + (3 + 11) + 21 ≤ 87 by omega)⟩) ⟨mP_blind, va_recv hK hP (ci := 5) (q0 := 0) rfl (wd_at (by decide) rfl), fun U hU hW => ⟨rfl, by rw [hU]; exact hP, va_K.moved hW.alike hK, hN.warm hW⟩⟩ rfl rfl hl.1 rfl (lv_room (Nat.le_of_ble_eq_true rfl)) d_MO_step_290 ⟨Nat.le_of_ble_eq_true rfl, Nat.le_of_ble_eq_true rfl⟩) hS (fun q _ h => h) (fun q h => h) (fun s78 t H locs ht0 hvm hq hB hz1 hk1 hS => ?_)
            obtain ⟨hP, -, -⟩ := hB
            rw [ht0] at hP
            refine lv_goto (tgt := 336) hx hb d_MO_step_293 (by decide) ?_
            exact W.vret hx hb hr (fun t ht hW => ⟨⟨s78, rfl, hq, by rw [ht]; exact hP, va_K.moved hW.alike hK, hN.warm hW⟩, hS.F ht⟩) hS.2.2 d_MO_step_336
      · have hq := hq.1 c64
        refine lv_iload_n hx hb d_MO_step_244 rfl (lv_at hl 2 rfl) ?_
        refine lv_bipush (v := 17) hx hb d_MO_step_245 (by decide) ?_
        refine lv_icmp_ne (tgt := 261) hx hb d_MO_step_247 (by decide) (fun c79 => ?_) (fun c79 => ?_)
        · have hq := hq.2 c79
          refine lv_iload hx hb d_MO_step_261 (lv_at hl 0 rfl) ?_
          refine lv_if_ne (tgt := 296) hx hb d_MO_step_263 (by decide) (fun c80 => ?_) (fun c80 => ?_)
          · have hq := hq.2 c80
            refine lv_aload_n hx hb d_MO_step_296 rfl (lv_at hl 5 rfl) ?_
            refine lv_iload_n hx hb d_MO_step_297 rfl (lv_at hl 2 rfl) ?_
            refine lv_bipush (v := 14) hx hb d_MO_step_298 (by decide) ?_
            refine lv_icmp_eq (tgt := 312) hx hb d_MO_step_300 (by decide) (fun c81 => ?_) (fun c81 => ?_)
            · have hq := hq.1 c81
              refine lv_aload_n hx hb d_MO_step_312 rfl (lv_at hl 5 rfl) ?_
              refine cw_get (C := R_MO) (T := F_MO) (N := 39) (v := .ref (am 3)) hx hb hts (in_MO _) hown hK hP 0 (by decide) rfl rfl 2 (by decide) (ht _ wC_684) rfl d_MO_step_313 ?_
              refine lv_iload_n hx hb d_MO_step_316 rfl (lv_at hl 3 rfl) ?_
              refine cw_iald hx hb hK hP 3 (by decide) rfl 0 rfl hq.1 d_MO_step_317 ?_
              have hq := hq.2
              refine lv_goto (tgt := 327) hx hb d_MO_step_318 (by decide) ?_
              refine lv_aload_n hx hb d_MO_step_327 rfl (lv_at hl 5 rfl) ?_
              refine cw_get (C := R_MO) (T := F_MO) (N := 39) (v := .ref (am 17)) hx hb hts (in_MO _) hown hK hP 0 (by decide) rfl rfl 24 (by decide) (ht _ wC_706) rfl d_MO_step_328 ?_
              refine lv_iload_n hx hb d_MO_step_331 rfl (lv_at hl 4 rfl) ?_
              refine cw_iald hx hb hK hP 17 (by decide) rfl 0 rfl hq.1 d_MO_step_332 ?_
              have hq := hq.2
              refine va_callv (va_runV (As := [.int (gA s60 2 ((gA σ 11 (((gI σ 8) - 1).toNatClampNeg)).toNatClampNeg)), .int (gA s60 12 (((gI σ 8) - 1).toNatClampNeg))]) (rest := []) ⟨hx, hb, hml, hown, hts⟩ (c_MO_enter (D := D) (cs := cs) hi hq) (cwV 2 hts (good_V wC_851 wC_853 wC_26 wC_50 wC_854) rfl rfl rfl (by decide +kernel) ⟨(show 1 + 1 ≤ 4 by omega), (show 8 + (3 + 11) + 21 ≤ 87 by omega)⟩) ⟨mP_blind, va_recv hK hP (ci := 5) (q0 := 0) rfl (wd_at (by decide) rfl), fun U hU hW => ⟨rfl, by rw [hU]; exact hP, va_K.moved hW.alike hK, hN.warm hW⟩⟩ rfl rfl hl.1 rfl (lv_room (Nat.le_of_ble_eq_true rfl)) d_MO_step_333 ⟨Nat.le_of_ble_eq_true rfl, Nat.le_of_ble_eq_true rfl⟩) hS (fun q _ h => h) (fun q h => h) (fun s83 t H locs ht0 hvm hq hB hz1 hk1 hS => ?_)
              obtain ⟨hP, -, -⟩ := hB
              rw [ht0] at hP
              exact W.vret hx hb hr (fun t ht hW => ⟨⟨s83, rfl, hq, by rw [ht]; exact hP, va_K.moved hW.alike hK, hN.warm hW⟩, hS.F ht⟩) hS.2.2 d_MO_step_336
            · have hq := hq.2 c81
              refine lv_aload_n hx hb d_MO_step_303 rfl (lv_at hl 5 rfl) ?_
              refine cw_get (C := R_MO) (T := F_MO) (N := 39) (v := .double (gX s60 0)) hx hb hts (in_MO _) hown hK hP 0 (by decide) rfl rfl 38 (by decide) (ht _ wC_720) rfl d_MO_step_304 ?_
              refine lv_dconst0 hx hb d_MO_step_307 ?_
              refine lv_dcmp hx hb d_MO_step_308 ?_
              refine lv_if_eq (tgt := 321) hx hb d_MO_step_309 (by decide) (fun c84 => ?_) (fun c84 => ?_)
              · have hq := hq.1 c84
                refine lv_aload_n hx hb d_MO_step_321 rfl (lv_at hl 5 rfl) ?_
                refine cw_get (C := R_MO) (T := F_MO) (N := 39) (v := .ref (am 4)) hx hb hts (in_MO _) hown hK hP 0 (by decide) rfl rfl 3 (by decide) (ht _ wC_685) rfl d_MO_step_322 ?_
                refine lv_iload_n hx hb d_MO_step_325 rfl (lv_at hl 3 rfl) ?_
                refine cw_iald hx hb hK hP 4 (by decide) rfl 0 rfl hq.1 d_MO_step_326 ?_
                have hq := hq.2
                refine lv_aload_n hx hb d_MO_step_327 rfl (lv_at hl 5 rfl) ?_
                refine cw_get (C := R_MO) (T := F_MO) (N := 39) (v := .ref (am 17)) hx hb hts (in_MO _) hown hK hP 0 (by decide) rfl rfl 24 (by decide) (ht _ wC_706) rfl d_MO_step_328 ?_
                refine lv_iload_n hx hb d_MO_step_331 rfl (lv_at hl 4 rfl) ?_
                refine cw_iald hx hb hK hP 17 (by decide) rfl 0 rfl hq.1 d_MO_step_332 ?_
                have hq := hq.2
                refine va_callv (va_runV (As := [.int (gA s60 3 ((gA σ 11 (((gI σ 8) - 1).toNatClampNeg)).toNatClampNeg)), .int (gA s60 12 (((gI σ 8) - 1).toNatClampNeg))]) (rest := []) ⟨hx, hb, hml, hown, hts⟩ (c_MO_enter (D := D) (cs := cs) hi hq) (cwV 2 hts (good_V wC_851 wC_853 wC_26 wC_50 wC_854) rfl rfl rfl (by decide +kernel) ⟨(show 1 + 1 ≤ 4 by omega), (show 8 + (3 + 11) + 21 ≤ 87 by omega)⟩) ⟨mP_blind, va_recv hK hP (ci := 5) (q0 := 0) rfl (wd_at (by decide) rfl), fun U hU hW => ⟨rfl, by rw [hU]; exact hP, va_K.moved hW.alike hK, hN.warm hW⟩⟩ rfl rfl hl.1 rfl (lv_room (Nat.le_of_ble_eq_true rfl)) d_MO_step_333 ⟨Nat.le_of_ble_eq_true rfl, Nat.le_of_ble_eq_true rfl⟩) hS (fun q _ h => h) (fun q h => h) (fun s86 t H locs ht0 hvm hq hB hz1 hk1 hS => ?_)
                obtain ⟨hP, -, -⟩ := hB
                rw [ht0] at hP
                exact W.vret hx hb hr (fun t ht hW => ⟨⟨s86, rfl, hq, by rw [ht]; exact hP, va_K.moved hW.alike hK, hN.warm hW⟩, hS.F ht⟩) hS.2.2 d_MO_step_336
              · have hq := hq.2 c84
                refine lv_aload_n hx hb d_MO_step_312 rfl (lv_at hl 5 rfl) ?_
                refine cw_get (C := R_MO) (T := F_MO) (N := 39) (v := .ref (am 3)) hx hb hts (in_MO _) hown hK hP 0 (by decide) rfl rfl 2 (by decide) (ht _ wC_684) rfl d_MO_step_313 ?_
                refine lv_iload_n hx hb d_MO_step_316 rfl (lv_at hl 3 rfl) ?_
                refine cw_iald hx hb hK hP 3 (by decide) rfl 0 rfl hq.1 d_MO_step_317 ?_
                have hq := hq.2
                refine lv_goto (tgt := 327) hx hb d_MO_step_318 (by decide) ?_
                refine lv_aload_n hx hb d_MO_step_327 rfl (lv_at hl 5 rfl) ?_
                refine cw_get (C := R_MO) (T := F_MO) (N := 39) (v := .ref (am 17)) hx hb hts (in_MO _) hown hK hP 0 (by decide) rfl rfl 24 (by decide) (ht _ wC_706) rfl d_MO_step_328 ?_
                refine lv_iload_n hx hb d_MO_step_331 rfl (lv_at hl 4 rfl) ?_
                refine cw_iald hx hb hK hP 17 (by decide) rfl 0 rfl hq.1 d_MO_step_332 ?_
                have hq := hq.2
                refine va_callv (va_runV (As := [.int (gA s60 2 ((gA σ 11 (((gI σ 8) - 1).toNatClampNeg)).toNatClampNeg)), .int (gA s60 12 (((gI σ 8) - 1).toNatClampNeg))]) (rest := []) ⟨hx, hb, hml, hown, hts⟩ (c_MO_enter (D := D) (cs := cs) hi hq) (cwV 2 hts (good_V wC_851 wC_853 wC_26 wC_50 wC_854) rfl rfl rfl (by decide +kernel) ⟨(show 1 + 1 ≤ 4 by omega), (show 8 + (3 + 11) + 21 ≤ 87 by omega)⟩) ⟨mP_blind, va_recv hK hP (ci := 5) (q0 := 0) rfl (wd_at (by decide) rfl), fun U hU hW => ⟨rfl, by rw [hU]; exact hP, va_K.moved hW.alike hK, hN.warm hW⟩⟩ rfl rfl hl.1 rfl (lv_room (Nat.le_of_ble_eq_true rfl)) d_MO_step_333 ⟨Nat.le_of_ble_eq_true rfl, Nat.le_of_ble_eq_true rfl⟩) hS (fun q _ h => h) (fun q h => h) (fun s88 t H locs ht0 hvm hq hB hz1 hk1 hS => ?_)
                obtain ⟨hP, -, -⟩ := hB
                rw [ht0] at hP
                exact W.vret hx hb hr (fun t ht hW => ⟨⟨s88, rfl, hq, by rw [ht]; exact hP, va_K.moved hW.alike hK, hN.warm hW⟩, hS.F ht⟩) hS.2.2 d_MO_step_336
          · have hq := hq.1 c80
            refine lv_aload_n hx hb d_MO_step_266 rfl (lv_at hl 5 rfl) ?_
            refine lv_iload_n hx hb d_MO_step_267 rfl (lv_at hl 2 rfl) ?_
            refine lv_bipush (v := 17) hx hb d_MO_step_268 (by decide) ?_
            refine lv_icmp_ne (tgt := 282) hx hb d_MO_step_270 (by decide) (fun c89 => ?_) (fun c89 => ?_)
            · have hq := hq.2 c89
              refine lv_iload hx hb d_MO_step_282 (lv_at hl 1 rfl) ?_
              refine lv_aload_n hx hb d_MO_step_284 rfl (lv_at hl 5 rfl) ?_
              refine cw_get (C := R_MO) (T := F_MO) (N := 39) (v := .ref (am 17)) hx hb hts (in_MO _) hown hK hP 0 (by decide) rfl rfl 24 (by decide) (ht _ wC_706) rfl d_MO_step_285 ?_
              refine lv_iload_n hx hb d_MO_step_288 rfl (lv_at hl 4 rfl) ?_
              refine cw_iald hx hb hK hP 17 (by decide) rfl 0 rfl hq.1 d_MO_step_289 ?_
              have hq := hq.2
              refine va_callv (va_runV (As := [.int (gA σ 1 ((gA σ 11 (((gI σ 8) - 1).toNatClampNeg)).toNatClampNeg)), .int (gA s60 12 (((gI σ 8) - 1).toNatClampNeg))]) (rest := []) ⟨hx, hb, hml, hown, hts⟩ (c_MO_enter (D := D) (cs := cs) hi hq) (cwV 2 hts (good_V wC_851 wC_853 wC_26 wC_50 wC_854) rfl rfl rfl (by decide +kernel) ⟨(show 1 + 1 ≤ 4 by omega), (show 8 + (3 + 11) + 21 ≤ 87 by omega)⟩) ⟨mP_blind, va_recv hK hP (ci := 5) (q0 := 0) rfl (wd_at (by decide) rfl), fun U hU hW => ⟨rfl, by rw [hU]; exact hP, va_K.moved hW.alike hK, hN.warm hW⟩⟩ rfl rfl hl.1 rfl (lv_room (Nat.le_of_ble_eq_true rfl)) d_MO_step_290 ⟨Nat.le_of_ble_eq_true rfl, Nat.le_of_ble_eq_true rfl⟩) hS (fun q _ h => h) (fun q h => h) (fun s91 t H locs ht0 hvm hq hB hz1 hk1 hS => ?_)
              obtain ⟨hP, -, -⟩ := hB
              rw [ht0] at hP
              refine lv_goto (tgt := 336) hx hb d_MO_step_293 (by decide) ?_
              exact W.vret hx hb hr (fun t ht hW => ⟨⟨s91, rfl, hq, by rw [ht]; exact hP, va_K.moved hW.alike hK, hN.warm hW⟩, hS.F ht⟩) hS.2.2 d_MO_step_336
            · have hq := hq.1 c89
              refine lv_aload_n hx hb d_MO_step_273 rfl (lv_at hl 5 rfl) ?_
              refine cw_get (C := R_MO) (T := F_MO) (N := 39) (v := .ref (am 3)) hx hb hts (in_MO _) hown hK hP 0 (by decide) rfl rfl 2 (by decide) (ht _ wC_684) rfl d_MO_step_274 ?_
              refine lv_iload_n hx hb d_MO_step_277 rfl (lv_at hl 3 rfl) ?_
              refine cw_iald hx hb hK hP 3 (by decide) rfl 0 rfl hq.1 d_MO_step_278 ?_
              have hq := hq.2
              refine lv_goto (tgt := 284) hx hb d_MO_step_279 (by decide) ?_
              refine lv_aload_n hx hb d_MO_step_284 rfl (lv_at hl 5 rfl) ?_
              refine cw_get (C := R_MO) (T := F_MO) (N := 39) (v := .ref (am 17)) hx hb hts (in_MO _) hown hK hP 0 (by decide) rfl rfl 24 (by decide) (ht _ wC_706) rfl d_MO_step_285 ?_
              refine lv_iload_n hx hb d_MO_step_288 rfl (lv_at hl 4 rfl) ?_
              refine cw_iald hx hb hK hP 17 (by decide) rfl 0 rfl hq.1 d_MO_step_289 ?_
              have hq := hq.2
              refine va_callv (va_runV (As := [.int (gA s60 2 ((gA σ 11 (((gI σ 8) - 1).toNatClampNeg)).toNatClampNeg)), .int (gA s60 12 (((gI σ 8) - 1).toNatClampNeg))]) (rest := []) ⟨hx, hb, hml, hown, hts⟩ (c_MO_enter (D := D) (cs := cs) hi hq) (cwV 2 hts (good_V wC_851 wC_853 wC_26 wC_50 wC_854) rfl rfl rfl (by decide +kernel) ⟨(show 1 + 1 ≤ 4 by omega), (show 8 + (3 + 11) + 21 ≤ 87 by omega)⟩) ⟨mP_blind, va_recv hK hP (ci := 5) (q0 := 0) rfl (wd_at (by decide) rfl), fun U hU hW => ⟨rfl, by rw [hU]; exact hP, va_K.moved hW.alike hK, hN.warm hW⟩⟩ rfl rfl hl.1 rfl (lv_room (Nat.le_of_ble_eq_true rfl)) d_MO_step_290 ⟨Nat.le_of_ble_eq_true rfl, Nat.le_of_ble_eq_true rfl⟩) hS (fun q _ h => h) (fun q h => h) (fun s93 t H locs ht0 hvm hq hB hz1 hk1 hS => ?_)
              obtain ⟨hP, -, -⟩ := hB
              rw [ht0] at hP
              refine lv_goto (tgt := 336) hx hb d_MO_step_293 (by decide) ?_
              exact W.vret hx hb hr (fun t ht hW => ⟨⟨s93, rfl, hq, by rw [ht]; exact hP, va_K.moved hW.alike hK, hN.warm hW⟩, hS.F ht⟩) hS.2.2 d_MO_step_336
        · have hq := hq.1 c79
          refine lv_aload_n hx hb d_MO_step_250 rfl (lv_at hl 5 rfl) ?_
          refine lv_aload_n hx hb d_MO_step_251 rfl (lv_at hl 5 rfl) ?_
          refine cw_get (C := R_MO) (T := F_MO) (N := 39) (v := .double (gX s60 0)) hx hb hts (in_MO _) hown hK hP 0 (by decide) rfl rfl 38 (by decide) (ht _ wC_720) rfl d_MO_step_252 ?_
          refine va_callv (va_runV (As := [.double (gX s60 0)]) (rest := []) ⟨hx, hb, hml, hown, hts⟩ (c_MO_end (D := D) (cs := cs) hi hq) (cwV 1 hts (good_V wC_864 wC_866 wC_29 wC_50 wC_867) rfl rfl rfl (by decide +kernel) ⟨(show 0 + 1 ≤ 4 by omega), (show 8 + (3 + 11) + 0 ≤ 87 by omega)⟩) ⟨mP_blind, va_recv hK hP (ci := 5) (q0 := 0) rfl (wd_at (by decide) rfl), fun U hU hW => ⟨rfl, by rw [hU]; exact hP, va_K.moved hW.alike hK, hN.warm hW⟩⟩ rfl rfl hl.1 rfl (lv_room (Nat.le_of_ble_eq_true rfl)) d_MO_step_255 ⟨Nat.le_of_ble_eq_true rfl, Nat.le_of_ble_eq_true rfl⟩) hS (fun q _ h => h) (fun q h => h) (fun s95 t H locs ht0 hvm hq hB hz1 hk1 hS => ?_)
          obtain ⟨hP, -, -⟩ := hB
          rw [ht0] at hP
          refine lv_goto (tgt := 336) hx hb d_MO_step_258 (by decide) ?_
          exact W.vret hx hb hr (fun t ht hW => ⟨⟨s95, rfl, hq, by rw [ht]; exact hP, va_K.moved hW.alike hK, hN.warm hW⟩, hS.F ht⟩) hS.2.2 d_MO_step_336
  have hq := hq.2 c59
  by_cases c96 : (gA σ 0 ((gA σ 11 (((gI σ 8) - 1).toNatClampNeg)).toNatClampNeg)) = 15
  · have hq := hq.1 c96
    refine lv_tableIn (tgt := 208) hx hb d_MO_step_38 (by rw [c96]; decide) (by rw [c96]; decide) (by rw [c96]; rfl) (by decide) ?_
    refine lv_aload_n hx hb d_MO_step_208 rfl (lv_at hl 5 rfl) ?_
    refine lv_iload_n hx hb d_MO_step_209 rfl (lv_at hl 4 rfl) ?_
    refine lv_iload_n hx hb d_MO_step_210 rfl (lv_at hl 3 rfl) ?_
    refine va_callv (va_runV (As := [.int ((gI σ 8) - 1), .int (gA σ 11 (((gI σ 8) - 1).toNatClampNeg))]) (rest := []) ⟨hx, hb, hml, hown, hts⟩ (c_MO_repeat (D := D) (cs := cs) hi hq) (cwV 2 hts (good_V wC_907 wC_909 wC_39 wC_50 wC_910) rfl rfl rfl (by decide +kernel) ⟨(show 2 + 1 ≤ 4 by omega), (show 8 + (3 + 11) + 43 ≤ 87 by omega)⟩) ⟨mP_blind, va_recv hK hP (ci := 5) (q0 := 0) rfl (wd_at (by decide) rfl), fun U hU hW => ⟨rfl, by rw [hU]; exact hP, va_K.moved hW.alike hK, hN.warm hW⟩⟩ rfl rfl hl.1 rfl (lv_room (Nat.le_of_ble_eq_true rfl)) d_MO_step_211 ⟨Nat.le_of_ble_eq_true rfl, Nat.le_of_ble_eq_true rfl⟩) hS (fun q _ h => h) (fun q h => h) (fun s98 t H locs ht0 hvm hq hB hz1 hk1 hS => ?_)
    obtain ⟨hP, -, -⟩ := hB
    rw [ht0] at hP
    exact W.vret hx hb hr (fun t ht hW => ⟨⟨s98, rfl, hq, by rw [ht]; exact hP, va_K.moved hW.alike hK, hN.warm hW⟩, hS.F ht⟩) hS.2.2 d_MO_step_214
  have hq := hq.2 c96
  by_cases c99 : (gA σ 0 ((gA σ 11 (((gI σ 8) - 1).toNatClampNeg)).toNatClampNeg)) = 16
  · have hq := hq.1 c99
    refine lv_tableIn (tgt := 215) hx hb d_MO_step_38 (by rw [c99]; decide) (by rw [c99]; decide) (by rw [c99]; rfl) (by decide) ?_
    refine lv_aload_n hx hb d_MO_step_215 rfl (lv_at hl 5 rfl) ?_
    refine lv_iload hx hb d_MO_step_216 (lv_at hl 1 rfl) ?_
    refine va_callv (va_runV (As := [.int (gA σ 1 ((gA σ 11 (((gI σ 8) - 1).toNatClampNeg)).toNatClampNeg))]) (rest := []) ⟨hx, hb, hml, hown, hts⟩ (c_MO_jump (D := D) (cs := cs) hi hq) (cwV 1 hts (good_V wC_911 wC_913 wC_40 wC_50 wC_914) rfl rfl rfl (by decide +kernel) ⟨(show 1 + 1 ≤ 4 by omega), (show 8 + (3 + 11) + 22 ≤ 87 by omega)⟩) ⟨mP_blind, va_recv hK hP (ci := 5) (q0 := 0) rfl (wd_at (by decide) rfl), fun U hU hW => ⟨rfl, by rw [hU]; exact hP, va_K.moved hW.alike hK, hN.warm hW⟩⟩ rfl rfl hl.1 rfl (lv_room (Nat.le_of_ble_eq_true rfl)) d_MO_step_218 ⟨Nat.le_of_ble_eq_true rfl, Nat.le_of_ble_eq_true rfl⟩) hS (fun q _ h => h) (fun q h => h) (fun s101 t H locs ht0 hvm hq hB hz1 hk1 hS => ?_)
    obtain ⟨hP, -, -⟩ := hB
    rw [ht0] at hP
    exact W.vret hx hb hr (fun t ht hW => ⟨⟨s101, rfl, hq, by rw [ht]; exact hP, va_K.moved hW.alike hK, hN.warm hW⟩, hS.F ht⟩) hS.2.2 d_MO_step_221
  have hq := hq.2 c99
  by_cases c102 : (gA σ 0 ((gA σ 11 (((gI σ 8) - 1).toNatClampNeg)).toNatClampNeg)) = 17
  · have hq := hq.1 c102
    refine lv_tableIn (tgt := 222) hx hb d_MO_step_38 (by rw [c102]; decide) (by rw [c102]; decide) (by rw [c102]; rfl) (by decide) ?_
    refine lv_aload_n hx hb d_MO_step_222 rfl (lv_at hl 5 rfl) ?_
    refine cw_get (C := R_MO) (T := F_MO) (N := 39) (v := .ref (am 18)) hx hb hts (in_MO _) hown hK hP 0 (by decide) rfl rfl 25 (by decide) (ht _ wC_707) rfl d_MO_step_223 ?_
    refine lv_iload_n hx hb d_MO_step_226 rfl (lv_at hl 4 rfl) ?_
    refine lv_dup2_11 hx hb d_MO_step_227 rfl rfl ?_
    refine cw_iald hx hb hK hP 18 (by decide) rfl 0 rfl hq.1 d_MO_step_228 ?_
    have hq := hq.2
    refine lv_iconst (v := 1) hx hb d_MO_step_229 (by decide) ?_
    refine lv_iadd hx hb d_MO_step_230 ?_
    refine cw_iast hx hb hK hP hi hS 18 (by decide) rfl 0 rfl hq.1 mpa_13 d_MO_step_231 (fun H locs hP hS => ?_)
    have hq := hq.2
    obtain ⟨s103, e_s103⟩ : ∃ z, z = sA σ 13 (upd (gA σ 13) (((gI σ 8) - 1).toNatClampNeg) ((gA σ 13 (((gI σ 8) - 1).toNatClampNeg)) + 1)) := ⟨_, rfl⟩
    rw [← e_s103] at hP
    have hq := hq s103 e_s103
    refine lv_iload hx hb d_MO_step_232 (lv_at hl 0 rfl) ?_
    refine lv_iconst (v := 2) hx hb d_MO_step_234 (by decide) ?_
    refine lv_icmp_eq (tgt := 250) hx hb d_MO_step_235 (by decide) (fun c104 => ?_) (fun c104 => ?_)
    · have hq := hq.1 c104
      refine lv_aload_n hx hb d_MO_step_250 rfl (lv_at hl 5 rfl) ?_
      refine lv_aload_n hx hb d_MO_step_251 rfl (lv_at hl 5 rfl) ?_
      refine cw_get (C := R_MO) (T := F_MO) (N := 39) (v := .double (gX s103 0)) hx hb hts (in_MO _) hown hK hP 0 (by decide) rfl rfl 38 (by decide) (ht _ wC_720) rfl d_MO_step_252 ?_
      refine va_callv (va_runV (As := [.double (gX s103 0)]) (rest := []) ⟨hx, hb, hml, hown, hts⟩ (c_MO_end (D := D) (cs := cs) hi hq) (cwV 1 hts (good_V wC_864 wC_866 wC_29 wC_50 wC_867) rfl rfl rfl (by decide +kernel) ⟨(show 0 + 1 ≤ 4 by omega), (show 8 + (3 + 11) + 0 ≤ 87 by omega)⟩) ⟨mP_blind, va_recv hK hP (ci := 5) (q0 := 0) rfl (wd_at (by decide) rfl), fun U hU hW => ⟨rfl, by rw [hU]; exact hP, va_K.moved hW.alike hK, hN.warm hW⟩⟩ rfl rfl hl.1 rfl (lv_room (Nat.le_of_ble_eq_true rfl)) d_MO_step_255 ⟨Nat.le_of_ble_eq_true rfl, Nat.le_of_ble_eq_true rfl⟩) hS (fun q _ h => h) (fun q h => h) (fun s106 t H locs ht0 hvm hq hB hz1 hk1 hS => ?_)
      obtain ⟨hP, -, -⟩ := hB
      rw [ht0] at hP
      refine lv_goto (tgt := 336) hx hb d_MO_step_258 (by decide) ?_
      exact W.vret hx hb hr (fun t ht hW => ⟨⟨s106, rfl, hq, by rw [ht]; exact hP, va_K.moved hW.alike hK, hN.warm hW⟩, hS.F ht⟩) hS.2.2 d_MO_step_336
    · have hq := hq.2 c104
      refine lv_iload hx hb d_MO_step_238 (lv_at hl 0 rfl) ?_
      refine lv_iconst (v := 1) hx hb d_MO_step_240 (by decide) ?_
      refine lv_icmp_ne (tgt := 261) hx hb d_MO_step_241 (by decide) (fun c107 => ?_) (fun c107 => ?_)
      · have hq := hq.2 c107
        refine lv_iload hx hb d_MO_step_261 (lv_at hl 0 rfl) ?_
        refine lv_if_ne (tgt := 296) hx hb d_MO_step_263 (by decide) (fun c108 => ?_) (fun c108 => ?_)
        · have hq := hq.2 c108
          refine lv_aload_n hx hb d_MO_step_296 rfl (lv_at hl 5 rfl) ?_
          refine lv_iload_n hx hb d_MO_step_297 rfl (lv_at hl 2 rfl) ?_
          refine lv_bipush (v := 14) hx hb d_MO_step_298 (by decide) ?_
          refine lv_icmp_eq (tgt := 312) hx hb d_MO_step_300 (by decide) (fun c109 => ?_) (fun c109 => ?_)
          · have hq := hq.1 c109
            refine lv_aload_n hx hb d_MO_step_312 rfl (lv_at hl 5 rfl) ?_
            refine cw_get (C := R_MO) (T := F_MO) (N := 39) (v := .ref (am 3)) hx hb hts (in_MO _) hown hK hP 0 (by decide) rfl rfl 2 (by decide) (ht _ wC_684) rfl d_MO_step_313 ?_
            refine lv_iload_n hx hb d_MO_step_316 rfl (lv_at hl 3 rfl) ?_
            refine cw_iald hx hb hK hP 3 (by decide) rfl 0 rfl hq.1 d_MO_step_317 ?_
            have hq := hq.2
            refine lv_goto (tgt := 327) hx hb d_MO_step_318 (by decide) ?_
            refine lv_aload_n hx hb d_MO_step_327 rfl (lv_at hl 5 rfl) ?_
            refine cw_get (C := R_MO) (T := F_MO) (N := 39) (v := .ref (am 17)) hx hb hts (in_MO _) hown hK hP 0 (by decide) rfl rfl 24 (by decide) (ht _ wC_706) rfl d_MO_step_328 ?_
            refine lv_iload_n hx hb d_MO_step_331 rfl (lv_at hl 4 rfl) ?_
            refine cw_iald hx hb hK hP 17 (by decide) rfl 0 rfl hq.1 d_MO_step_332 ?_
            have hq := hq.2
            refine va_callv (va_runV (As := [.int (gA s103 2 ((gA σ 11 (((gI σ 8) - 1).toNatClampNeg)).toNatClampNeg)), .int (gA s103 12 (((gI σ 8) - 1).toNatClampNeg))]) (rest := []) ⟨hx, hb, hml, hown, hts⟩ (c_MO_enter (D := D) (cs := cs) hi hq) (cwV 2 hts (good_V wC_851 wC_853 wC_26 wC_50 wC_854) rfl rfl rfl (by decide +kernel) ⟨(show 1 + 1 ≤ 4 by omega), (show 8 + (3 + 11) + 21 ≤ 87 by omega)⟩) ⟨mP_blind, va_recv hK hP (ci := 5) (q0 := 0) rfl (wd_at (by decide) rfl), fun U hU hW => ⟨rfl, by rw [hU]; exact hP, va_K.moved hW.alike hK, hN.warm hW⟩⟩ rfl rfl hl.1 rfl (lv_room (Nat.le_of_ble_eq_true rfl)) d_MO_step_333 ⟨Nat.le_of_ble_eq_true rfl, Nat.le_of_ble_eq_true rfl⟩) hS (fun q _ h => h) (fun q h => h) (fun s111 t H locs ht0 hvm hq hB hz1 hk1 hS => ?_)
            obtain ⟨hP, -, -⟩ := hB
            rw [ht0] at hP
            exact W.vret hx hb hr (fun t ht hW => ⟨⟨s111, rfl, hq, by rw [ht]; exact hP, va_K.moved hW.alike hK, hN.warm hW⟩, hS.F ht⟩) hS.2.2 d_MO_step_336
          · have hq := hq.2 c109
            refine lv_aload_n hx hb d_MO_step_303 rfl (lv_at hl 5 rfl) ?_
            refine cw_get (C := R_MO) (T := F_MO) (N := 39) (v := .double (gX s103 0)) hx hb hts (in_MO _) hown hK hP 0 (by decide) rfl rfl 38 (by decide) (ht _ wC_720) rfl d_MO_step_304 ?_
            refine lv_dconst0 hx hb d_MO_step_307 ?_
            refine lv_dcmp hx hb d_MO_step_308 ?_
            refine lv_if_eq (tgt := 321) hx hb d_MO_step_309 (by decide) (fun c112 => ?_) (fun c112 => ?_)
            · have hq := hq.1 c112
              refine lv_aload_n hx hb d_MO_step_321 rfl (lv_at hl 5 rfl) ?_
              refine cw_get (C := R_MO) (T := F_MO) (N := 39) (v := .ref (am 4)) hx hb hts (in_MO _) hown hK hP 0 (by decide) rfl rfl 3 (by decide) (ht _ wC_685) rfl d_MO_step_322 ?_
              refine lv_iload_n hx hb d_MO_step_325 rfl (lv_at hl 3 rfl) ?_
              refine cw_iald hx hb hK hP 4 (by decide) rfl 0 rfl hq.1 d_MO_step_326 ?_
              have hq := hq.2
              refine lv_aload_n hx hb d_MO_step_327 rfl (lv_at hl 5 rfl) ?_
              refine cw_get (C := R_MO) (T := F_MO) (N := 39) (v := .ref (am 17)) hx hb hts (in_MO _) hown hK hP 0 (by decide) rfl rfl 24 (by decide) (ht _ wC_706) rfl d_MO_step_328 ?_
              refine lv_iload_n hx hb d_MO_step_331 rfl (lv_at hl 4 rfl) ?_
              refine cw_iald hx hb hK hP 17 (by decide) rfl 0 rfl hq.1 d_MO_step_332 ?_
              have hq := hq.2
              refine va_callv (va_runV (As := [.int (gA s103 3 ((gA σ 11 (((gI σ 8) - 1).toNatClampNeg)).toNatClampNeg)), .int (gA s103 12 (((gI σ 8) - 1).toNatClampNeg))]) (rest := []) ⟨hx, hb, hml, hown, hts⟩ (c_MO_enter (D := D) (cs := cs) hi hq) (cwV 2 hts (good_V wC_851 wC_853 wC_26 wC_50 wC_854) rfl rfl rfl (by decide +kernel) ⟨(show 1 + 1 ≤ 4 by omega), (show 8 + (3 + 11) + 21 ≤ 87 by omega)⟩) ⟨mP_blind, va_recv hK hP (ci := 5) (q0 := 0) rfl (wd_at (by decide) rfl), fun U hU hW => ⟨rfl, by rw [hU]; exact hP, va_K.moved hW.alike hK, hN.warm hW⟩⟩ rfl rfl hl.1 rfl (lv_room (Nat.le_of_ble_eq_true rfl)) d_MO_step_333 ⟨Nat.le_of_ble_eq_true rfl, Nat.le_of_ble_eq_true rfl⟩) hS (fun q _ h => h) (fun q h => h) (fun s114 t H locs ht0 hvm hq hB hz1 hk1 hS => ?_)
              obtain ⟨hP, -, -⟩ := hB
              rw [ht0] at hP
              exact W.vret hx hb hr (fun t ht hW => ⟨⟨s114, rfl, hq, by rw [ht]; exact hP, va_K.moved hW.alike hK, hN.warm hW⟩, hS.F ht⟩) hS.2.2 d_MO_step_336
            · have hq := hq.2 c112
              refine lv_aload_n hx hb d_MO_step_312 rfl (lv_at hl 5 rfl) ?_
              refine cw_get (C := R_MO) (T := F_MO) (N := 39) (v := .ref (am 3)) hx hb hts (in_MO _) hown hK hP 0 (by decide) rfl rfl 2 (by decide) (ht _ wC_684) rfl d_MO_step_313 ?_
              refine lv_iload_n hx hb d_MO_step_316 rfl (lv_at hl 3 rfl) ?_
              refine cw_iald hx hb hK hP 3 (by decide) rfl 0 rfl hq.1 d_MO_step_317 ?_
              have hq := hq.2
              refine lv_goto (tgt := 327) hx hb d_MO_step_318 (by decide) ?_
              refine lv_aload_n hx hb d_MO_step_327 rfl (lv_at hl 5 rfl) ?_
              refine cw_get (C := R_MO) (T := F_MO) (N := 39) (v := .ref (am 17)) hx hb hts (in_MO _) hown hK hP 0 (by decide) rfl rfl 24 (by decide) (ht _ wC_706) rfl d_MO_step_328 ?_
              refine lv_iload_n hx hb d_MO_step_331 rfl (lv_at hl 4 rfl) ?_
              refine cw_iald hx hb hK hP 17 (by decide) rfl 0 rfl hq.1 d_MO_step_332 ?_
              have hq := hq.2
              refine va_callv (va_runV (As := [.int (gA s103 2 ((gA σ 11 (((gI σ 8) - 1).toNatClampNeg)).toNatClampNeg)), .int (gA s103 12 (((gI σ 8) - 1).toNatClampNeg))]) (rest := []) ⟨hx, hb, hml, hown, hts⟩ (c_MO_enter (D := D) (cs := cs) hi hq) (cwV 2 hts (good_V wC_851 wC_853 wC_26 wC_50 wC_854) rfl rfl rfl (by decide +kernel) ⟨(show 1 + 1 ≤ 4 by omega), (show 8 + (3 + 11) + 21 ≤ 87 by omega)⟩) ⟨mP_blind, va_recv hK hP (ci := 5) (q0 := 0) rfl (wd_at (by decide) rfl), fun U hU hW => ⟨rfl, by rw [hU]; exact hP, va_K.moved hW.alike hK, hN.warm hW⟩⟩ rfl rfl hl.1 rfl (lv_room (Nat.le_of_ble_eq_true rfl)) d_MO_step_333 ⟨Nat.le_of_ble_eq_true rfl, Nat.le_of_ble_eq_true rfl⟩) hS (fun q _ h => h) (fun q h => h) (fun s116 t H locs ht0 hvm hq hB hz1 hk1 hS => ?_)
              obtain ⟨hP, -, -⟩ := hB
              rw [ht0] at hP
              exact W.vret hx hb hr (fun t ht hW => ⟨⟨s116, rfl, hq, by rw [ht]; exact hP, va_K.moved hW.alike hK, hN.warm hW⟩, hS.F ht⟩) hS.2.2 d_MO_step_336
        · have hq := hq.1 c108
          refine lv_aload_n hx hb d_MO_step_266 rfl (lv_at hl 5 rfl) ?_
          refine lv_iload_n hx hb d_MO_step_267 rfl (lv_at hl 2 rfl) ?_
          refine lv_bipush (v := 17) hx hb d_MO_step_268 (by decide) ?_
          refine lv_icmp_ne (tgt := 282) hx hb d_MO_step_270 (by decide) (fun c117 => ?_) (fun c117 => ?_)
          · have hq := hq.2 c117
            refine lv_iload hx hb d_MO_step_282 (lv_at hl 1 rfl) ?_
            refine lv_aload_n hx hb d_MO_step_284 rfl (lv_at hl 5 rfl) ?_
            refine cw_get (C := R_MO) (T := F_MO) (N := 39) (v := .ref (am 17)) hx hb hts (in_MO _) hown hK hP 0 (by decide) rfl rfl 24 (by decide) (ht _ wC_706) rfl d_MO_step_285 ?_
            refine lv_iload_n hx hb d_MO_step_288 rfl (lv_at hl 4 rfl) ?_
            refine cw_iald hx hb hK hP 17 (by decide) rfl 0 rfl hq.1 d_MO_step_289 ?_
            have hq := hq.2
            refine va_callv (va_runV (As := [.int (gA σ 1 ((gA σ 11 (((gI σ 8) - 1).toNatClampNeg)).toNatClampNeg)), .int (gA s103 12 (((gI σ 8) - 1).toNatClampNeg))]) (rest := []) ⟨hx, hb, hml, hown, hts⟩ (c_MO_enter (D := D) (cs := cs) hi hq) (cwV 2 hts (good_V wC_851 wC_853 wC_26 wC_50 wC_854) rfl rfl rfl (by decide +kernel) ⟨(show 1 + 1 ≤ 4 by omega), (show 8 + (3 + 11) + 21 ≤ 87 by omega)⟩) ⟨mP_blind, va_recv hK hP (ci := 5) (q0 := 0) rfl (wd_at (by decide) rfl), fun U hU hW => ⟨rfl, by rw [hU]; exact hP, va_K.moved hW.alike hK, hN.warm hW⟩⟩ rfl rfl hl.1 rfl (lv_room (Nat.le_of_ble_eq_true rfl)) d_MO_step_290 ⟨Nat.le_of_ble_eq_true rfl, Nat.le_of_ble_eq_true rfl⟩) hS (fun q _ h => h) (fun q h => h) (fun s119 t H locs ht0 hvm hq hB hz1 hk1 hS => ?_)
            obtain ⟨hP, -, -⟩ := hB
            rw [ht0] at hP
            refine lv_goto (tgt := 336) hx hb d_MO_step_293 (by decide) ?_
            exact W.vret hx hb hr (fun t ht hW => ⟨⟨s119, rfl, hq, by rw [ht]; exact hP, va_K.moved hW.alike hK, hN.warm hW⟩, hS.F ht⟩) hS.2.2 d_MO_step_336
          · have hq := hq.1 c117
            refine lv_aload_n hx hb d_MO_step_273 rfl (lv_at hl 5 rfl) ?_
            refine cw_get (C := R_MO) (T := F_MO) (N := 39) (v := .ref (am 3)) hx hb hts (in_MO _) hown hK hP 0 (by decide) rfl rfl 2 (by decide) (ht _ wC_684) rfl d_MO_step_274 ?_
            refine lv_iload_n hx hb d_MO_step_277 rfl (lv_at hl 3 rfl) ?_
            refine cw_iald hx hb hK hP 3 (by decide) rfl 0 rfl hq.1 d_MO_step_278 ?_
            have hq := hq.2
            refine lv_goto (tgt := 284) hx hb d_MO_step_279 (by decide) ?_
            refine lv_aload_n hx hb d_MO_step_284 rfl (lv_at hl 5 rfl) ?_
            refine cw_get (C := R_MO) (T := F_MO) (N := 39) (v := .ref (am 17)) hx hb hts (in_MO _) hown hK hP 0 (by decide) rfl rfl 24 (by decide) (ht _ wC_706) rfl d_MO_step_285 ?_
            refine lv_iload_n hx hb d_MO_step_288 rfl (lv_at hl 4 rfl) ?_
            refine cw_iald hx hb hK hP 17 (by decide) rfl 0 rfl hq.1 d_MO_step_289 ?_
            have hq := hq.2
            refine va_callv (va_runV (As := [.int (gA s103 2 ((gA σ 11 (((gI σ 8) - 1).toNatClampNeg)).toNatClampNeg)), .int (gA s103 12 (((gI σ 8) - 1).toNatClampNeg))]) (rest := []) ⟨hx, hb, hml, hown, hts⟩ (c_MO_enter (D := D) (cs := cs) hi hq) (cwV 2 hts (good_V wC_851 wC_853 wC_26 wC_50 wC_854) rfl rfl rfl (by decide +kernel) ⟨(show 1 + 1 ≤ 4 by omega), (show 8 + (3 + 11) + 21 ≤ 87 by omega)⟩) ⟨mP_blind, va_recv hK hP (ci := 5) (q0 := 0) rfl (wd_at (by decide) rfl), fun U hU hW => ⟨rfl, by rw [hU]; exact hP, va_K.moved hW.alike hK, hN.warm hW⟩⟩ rfl rfl hl.1 rfl (lv_room (Nat.le_of_ble_eq_true rfl)) d_MO_step_290 ⟨Nat.le_of_ble_eq_true rfl, Nat.le_of_ble_eq_true rfl⟩) hS (fun q _ h => h) (fun q h => h) (fun s121 t H locs ht0 hvm hq hB hz1 hk1 hS => ?_)
            obtain ⟨hP, -, -⟩ := hB
            rw [ht0] at hP
            refine lv_goto (tgt := 336) hx hb d_MO_step_293 (by decide) ?_
            exact W.vret hx hb hr (fun t ht hW => ⟨⟨s121, rfl, hq, by rw [ht]; exact hP, va_K.moved hW.alike hK, hN.warm hW⟩, hS.F ht⟩) hS.2.2 d_MO_step_336
      · have hq := hq.1 c107
        refine lv_iload_n hx hb d_MO_step_244 rfl (lv_at hl 2 rfl) ?_
        refine lv_bipush (v := 17) hx hb d_MO_step_245 (by decide) ?_
        refine lv_icmp_ne (tgt := 261) hx hb d_MO_step_247 (by decide) (fun c122 => ?_) (fun c122 => ?_)
        · have hq := hq.2 c122
          refine lv_iload hx hb d_MO_step_261 (lv_at hl 0 rfl) ?_
          refine lv_if_ne (tgt := 296) hx hb d_MO_step_263 (by decide) (fun c123 => ?_) (fun c123 => ?_)
          · have hq := hq.2 c123
            refine lv_aload_n hx hb d_MO_step_296 rfl (lv_at hl 5 rfl) ?_
            refine lv_iload_n hx hb d_MO_step_297 rfl (lv_at hl 2 rfl) ?_
            refine lv_bipush (v := 14) hx hb d_MO_step_298 (by decide) ?_
            refine lv_icmp_eq (tgt := 312) hx hb d_MO_step_300 (by decide) (fun c124 => ?_) (fun c124 => ?_)
            · have hq := hq.1 c124
              refine lv_aload_n hx hb d_MO_step_312 rfl (lv_at hl 5 rfl) ?_
              refine cw_get (C := R_MO) (T := F_MO) (N := 39) (v := .ref (am 3)) hx hb hts (in_MO _) hown hK hP 0 (by decide) rfl rfl 2 (by decide) (ht _ wC_684) rfl d_MO_step_313 ?_
              refine lv_iload_n hx hb d_MO_step_316 rfl (lv_at hl 3 rfl) ?_
              refine cw_iald hx hb hK hP 3 (by decide) rfl 0 rfl hq.1 d_MO_step_317 ?_
              have hq := hq.2
              refine lv_goto (tgt := 327) hx hb d_MO_step_318 (by decide) ?_
              refine lv_aload_n hx hb d_MO_step_327 rfl (lv_at hl 5 rfl) ?_
              refine cw_get (C := R_MO) (T := F_MO) (N := 39) (v := .ref (am 17)) hx hb hts (in_MO _) hown hK hP 0 (by decide) rfl rfl 24 (by decide) (ht _ wC_706) rfl d_MO_step_328 ?_
              refine lv_iload_n hx hb d_MO_step_331 rfl (lv_at hl 4 rfl) ?_
              refine cw_iald hx hb hK hP 17 (by decide) rfl 0 rfl hq.1 d_MO_step_332 ?_
              have hq := hq.2
              refine va_callv (va_runV (As := [.int (gA s103 2 ((gA σ 11 (((gI σ 8) - 1).toNatClampNeg)).toNatClampNeg)), .int (gA s103 12 (((gI σ 8) - 1).toNatClampNeg))]) (rest := []) ⟨hx, hb, hml, hown, hts⟩ (c_MO_enter (D := D) (cs := cs) hi hq) (cwV 2 hts (good_V wC_851 wC_853 wC_26 wC_50 wC_854) rfl rfl rfl (by decide +kernel) ⟨(show 1 + 1 ≤ 4 by omega), (show 8 + (3 + 11) + 21 ≤ 87 by omega)⟩) ⟨mP_blind, va_recv hK hP (ci := 5) (q0 := 0) rfl (wd_at (by decide) rfl), fun U hU hW => ⟨rfl, by rw [hU]; exact hP, va_K.moved hW.alike hK, hN.warm hW⟩⟩ rfl rfl hl.1 rfl (lv_room (Nat.le_of_ble_eq_true rfl)) d_MO_step_333 ⟨Nat.le_of_ble_eq_true rfl, Nat.le_of_ble_eq_true rfl⟩) hS (fun q _ h => h) (fun q h => h) (fun s126 t H locs ht0 hvm hq hB hz1 hk1 hS => ?_)
              obtain ⟨hP, -, -⟩ := hB
              rw [ht0] at hP
              exact W.vret hx hb hr (fun t ht hW => ⟨⟨s126, rfl, hq, by rw [ht]; exact hP, va_K.moved hW.alike hK, hN.warm hW⟩, hS.F ht⟩) hS.2.2 d_MO_step_336
            · have hq := hq.2 c124
              refine lv_aload_n hx hb d_MO_step_303 rfl (lv_at hl 5 rfl) ?_
              refine cw_get (C := R_MO) (T := F_MO) (N := 39) (v := .double (gX s103 0)) hx hb hts (in_MO _) hown hK hP 0 (by decide) rfl rfl 38 (by decide) (ht _ wC_720) rfl d_MO_step_304 ?_
              refine lv_dconst0 hx hb d_MO_step_307 ?_
              refine lv_dcmp hx hb d_MO_step_308 ?_
              refine lv_if_eq (tgt := 321) hx hb d_MO_step_309 (by decide) (fun c127 => ?_) (fun c127 => ?_)
              · have hq := hq.1 c127
                refine lv_aload_n hx hb d_MO_step_321 rfl (lv_at hl 5 rfl) ?_
                refine cw_get (C := R_MO) (T := F_MO) (N := 39) (v := .ref (am 4)) hx hb hts (in_MO _) hown hK hP 0 (by decide) rfl rfl 3 (by decide) (ht _ wC_685) rfl d_MO_step_322 ?_
                refine lv_iload_n hx hb d_MO_step_325 rfl (lv_at hl 3 rfl) ?_
                refine cw_iald hx hb hK hP 4 (by decide) rfl 0 rfl hq.1 d_MO_step_326 ?_
                have hq := hq.2
                refine lv_aload_n hx hb d_MO_step_327 rfl (lv_at hl 5 rfl) ?_
                refine cw_get (C := R_MO) (T := F_MO) (N := 39) (v := .ref (am 17)) hx hb hts (in_MO _) hown hK hP 0 (by decide) rfl rfl 24 (by decide) (ht _ wC_706) rfl d_MO_step_328 ?_
                refine lv_iload_n hx hb d_MO_step_331 rfl (lv_at hl 4 rfl) ?_
                refine cw_iald hx hb hK hP 17 (by decide) rfl 0 rfl hq.1 d_MO_step_332 ?_
                have hq := hq.2
                refine va_callv (va_runV (As := [.int (gA s103 3 ((gA σ 11 (((gI σ 8) - 1).toNatClampNeg)).toNatClampNeg)), .int (gA s103 12 (((gI σ 8) - 1).toNatClampNeg))]) (rest := []) ⟨hx, hb, hml, hown, hts⟩ (c_MO_enter (D := D) (cs := cs) hi hq) (cwV 2 hts (good_V wC_851 wC_853 wC_26 wC_50 wC_854) rfl rfl rfl (by decide +kernel) ⟨(show 1 + 1 ≤ 4 by omega), (show 8 + (3 + 11) + 21 ≤ 87 by omega)⟩) ⟨mP_blind, va_recv hK hP (ci := 5) (q0 := 0) rfl (wd_at (by decide) rfl), fun U hU hW => ⟨rfl, by rw [hU]; exact hP, va_K.moved hW.alike hK, hN.warm hW⟩⟩ rfl rfl hl.1 rfl (lv_room (Nat.le_of_ble_eq_true rfl)) d_MO_step_333 ⟨Nat.le_of_ble_eq_true rfl, Nat.le_of_ble_eq_true rfl⟩) hS (fun q _ h => h) (fun q h => h) (fun s129 t H locs ht0 hvm hq hB hz1 hk1 hS => ?_)
                obtain ⟨hP, -, -⟩ := hB
                rw [ht0] at hP
                exact W.vret hx hb hr (fun t ht hW => ⟨⟨s129, rfl, hq, by rw [ht]; exact hP, va_K.moved hW.alike hK, hN.warm hW⟩, hS.F ht⟩) hS.2.2 d_MO_step_336
              · have hq := hq.2 c127
                refine lv_aload_n hx hb d_MO_step_312 rfl (lv_at hl 5 rfl) ?_
                refine cw_get (C := R_MO) (T := F_MO) (N := 39) (v := .ref (am 3)) hx hb hts (in_MO _) hown hK hP 0 (by decide) rfl rfl 2 (by decide) (ht _ wC_684) rfl d_MO_step_313 ?_
                refine lv_iload_n hx hb d_MO_step_316 rfl (lv_at hl 3 rfl) ?_
                refine cw_iald hx hb hK hP 3 (by decide) rfl 0 rfl hq.1 d_MO_step_317 ?_
                have hq := hq.2
                refine lv_goto (tgt := 327) hx hb d_MO_step_318 (by decide) ?_
                refine lv_aload_n hx hb d_MO_step_327 rfl (lv_at hl 5 rfl) ?_
                refine cw_get (C := R_MO) (T := F_MO) (N := 39) (v := .ref (am 17)) hx hb hts (in_MO _) hown hK hP 0 (by decide) rfl rfl 24 (by decide) (ht _ wC_706) rfl d_MO_step_328 ?_
                refine lv_iload_n hx hb d_MO_step_331 rfl (lv_at hl 4 rfl) ?_
                refine cw_iald hx hb hK hP 17 (by decide) rfl 0 rfl hq.1 d_MO_step_332 ?_
                have hq := hq.2
                refine va_callv (va_runV (As := [.int (gA s103 2 ((gA σ 11 (((gI σ 8) - 1).toNatClampNeg)).toNatClampNeg)), .int (gA s103 12 (((gI σ 8) - 1).toNatClampNeg))]) (rest := []) ⟨hx, hb, hml, hown, hts⟩ (c_MO_enter (D := D) (cs := cs) hi hq) (cwV 2 hts (good_V wC_851 wC_853 wC_26 wC_50 wC_854) rfl rfl rfl (by decide +kernel) ⟨(show 1 + 1 ≤ 4 by omega), (show 8 + (3 + 11) + 21 ≤ 87 by omega)⟩) ⟨mP_blind, va_recv hK hP (ci := 5) (q0 := 0) rfl (wd_at (by decide) rfl), fun U hU hW => ⟨rfl, by rw [hU]; exact hP, va_K.moved hW.alike hK, hN.warm hW⟩⟩ rfl rfl hl.1 rfl (lv_room (Nat.le_of_ble_eq_true rfl)) d_MO_step_333 ⟨Nat.le_of_ble_eq_true rfl, Nat.le_of_ble_eq_true rfl⟩) hS (fun q _ h => h) (fun q h => h) (fun s131 t H locs ht0 hvm hq hB hz1 hk1 hS => ?_)
                obtain ⟨hP, -, -⟩ := hB
                rw [ht0] at hP
                exact W.vret hx hb hr (fun t ht hW => ⟨⟨s131, rfl, hq, by rw [ht]; exact hP, va_K.moved hW.alike hK, hN.warm hW⟩, hS.F ht⟩) hS.2.2 d_MO_step_336
          · have hq := hq.1 c123
            refine lv_aload_n hx hb d_MO_step_266 rfl (lv_at hl 5 rfl) ?_
            refine lv_iload_n hx hb d_MO_step_267 rfl (lv_at hl 2 rfl) ?_
            refine lv_bipush (v := 17) hx hb d_MO_step_268 (by decide) ?_
            refine lv_icmp_ne (tgt := 282) hx hb d_MO_step_270 (by decide) (fun c132 => ?_) (fun c132 => ?_)
            · have hq := hq.2 c132
              refine lv_iload hx hb d_MO_step_282 (lv_at hl 1 rfl) ?_
              refine lv_aload_n hx hb d_MO_step_284 rfl (lv_at hl 5 rfl) ?_
              refine cw_get (C := R_MO) (T := F_MO) (N := 39) (v := .ref (am 17)) hx hb hts (in_MO _) hown hK hP 0 (by decide) rfl rfl 24 (by decide) (ht _ wC_706) rfl d_MO_step_285 ?_
              refine lv_iload_n hx hb d_MO_step_288 rfl (lv_at hl 4 rfl) ?_
              refine cw_iald hx hb hK hP 17 (by decide) rfl 0 rfl hq.1 d_MO_step_289 ?_
              have hq := hq.2
              refine va_callv (va_runV (As := [.int (gA σ 1 ((gA σ 11 (((gI σ 8) - 1).toNatClampNeg)).toNatClampNeg)), .int (gA s103 12 (((gI σ 8) - 1).toNatClampNeg))]) (rest := []) ⟨hx, hb, hml, hown, hts⟩ (c_MO_enter (D := D) (cs := cs) hi hq) (cwV 2 hts (good_V wC_851 wC_853 wC_26 wC_50 wC_854) rfl rfl rfl (by decide +kernel) ⟨(show 1 + 1 ≤ 4 by omega), (show 8 + (3 + 11) + 21 ≤ 87 by omega)⟩) ⟨mP_blind, va_recv hK hP (ci := 5) (q0 := 0) rfl (wd_at (by decide) rfl), fun U hU hW => ⟨rfl, by rw [hU]; exact hP, va_K.moved hW.alike hK, hN.warm hW⟩⟩ rfl rfl hl.1 rfl (lv_room (Nat.le_of_ble_eq_true rfl)) d_MO_step_290 ⟨Nat.le_of_ble_eq_true rfl, Nat.le_of_ble_eq_true rfl⟩) hS (fun q _ h => h) (fun q h => h) (fun s134 t H locs ht0 hvm hq hB hz1 hk1 hS => ?_)
              obtain ⟨hP, -, -⟩ := hB
              rw [ht0] at hP
              refine lv_goto (tgt := 336) hx hb d_MO_step_293 (by decide) ?_
              exact W.vret hx hb hr (fun t ht hW => ⟨⟨s134, rfl, hq, by rw [ht]; exact hP, va_K.moved hW.alike hK, hN.warm hW⟩, hS.F ht⟩) hS.2.2 d_MO_step_336
            · have hq := hq.1 c132
              refine lv_aload_n hx hb d_MO_step_273 rfl (lv_at hl 5 rfl) ?_
              refine cw_get (C := R_MO) (T := F_MO) (N := 39) (v := .ref (am 3)) hx hb hts (in_MO _) hown hK hP 0 (by decide) rfl rfl 2 (by decide) (ht _ wC_684) rfl d_MO_step_274 ?_
              refine lv_iload_n hx hb d_MO_step_277 rfl (lv_at hl 3 rfl) ?_
              refine cw_iald hx hb hK hP 3 (by decide) rfl 0 rfl hq.1 d_MO_step_278 ?_
              have hq := hq.2
              refine lv_goto (tgt := 284) hx hb d_MO_step_279 (by decide) ?_
              refine lv_aload_n hx hb d_MO_step_284 rfl (lv_at hl 5 rfl) ?_
              refine cw_get (C := R_MO) (T := F_MO) (N := 39) (v := .ref (am 17)) hx hb hts (in_MO _) hown hK hP 0 (by decide) rfl rfl 24 (by decide) (ht _ wC_706) rfl d_MO_step_285 ?_
              refine lv_iload_n hx hb d_MO_step_288 rfl (lv_at hl 4 rfl) ?_
              refine cw_iald hx hb hK hP 17 (by decide) rfl 0 rfl hq.1 d_MO_step_289 ?_
              have hq := hq.2
              refine va_callv (va_runV (As := [.int (gA s103 2 ((gA σ 11 (((gI σ 8) - 1).toNatClampNeg)).toNatClampNeg)), .int (gA s103 12 (((gI σ 8) - 1).toNatClampNeg))]) (rest := []) ⟨hx, hb, hml, hown, hts⟩ (c_MO_enter (D := D) (cs := cs) hi hq) (cwV 2 hts (good_V wC_851 wC_853 wC_26 wC_50 wC_854) rfl rfl rfl (by decide +kernel) ⟨(show 1 + 1 ≤ 4 by omega), (show 8 + (3 + 11) + 21 ≤ 87 by omega)⟩) ⟨mP_blind, va_recv hK hP (ci := 5) (q0 := 0) rfl (wd_at (by decide) rfl), fun U hU hW => ⟨rfl, by rw [hU]; exact hP, va_K.moved hW.alike hK, hN.warm hW⟩⟩ rfl rfl hl.1 rfl (lv_room (Nat.le_of_ble_eq_true rfl)) d_MO_step_290 ⟨Nat.le_of_ble_eq_true rfl, Nat.le_of_ble_eq_true rfl⟩) hS (fun q _ h => h) (fun q h => h) (fun s136 t H locs ht0 hvm hq hB hz1 hk1 hS => ?_)
              obtain ⟨hP, -, -⟩ := hB
              rw [ht0] at hP
              refine lv_goto (tgt := 336) hx hb d_MO_step_293 (by decide) ?_
              exact W.vret hx hb hr (fun t ht hW => ⟨⟨s136, rfl, hq, by rw [ht]; exact hP, va_K.moved hW.alike hK, hN.warm hW⟩, hS.F ht⟩) hS.2.2 d_MO_step_336
        · have hq := hq.1 c122
          refine lv_aload_n hx hb d_MO_step_250 rfl (lv_at hl 5 rfl) ?_
          refine lv_aload_n hx hb d_MO_step_251 rfl (lv_at hl 5 rfl) ?_
          refine cw_get (C := R_MO) (T := F_MO) (N := 39) (v := .double (gX s103 0)) hx hb hts (in_MO _) hown hK hP 0 (by decide) rfl rfl 38 (by decide) (ht _ wC_720) rfl d_MO_step_252 ?_
          refine va_callv (va_runV (As := [.double (gX s103 0)]) (rest := []) ⟨hx, hb, hml, hown, hts⟩ (c_MO_end (D := D) (cs := cs) hi hq) (cwV 1 hts (good_V wC_864 wC_866 wC_29 wC_50 wC_867) rfl rfl rfl (by decide +kernel) ⟨(show 0 + 1 ≤ 4 by omega), (show 8 + (3 + 11) + 0 ≤ 87 by omega)⟩) ⟨mP_blind, va_recv hK hP (ci := 5) (q0 := 0) rfl (wd_at (by decide) rfl), fun U hU hW => ⟨rfl, by rw [hU]; exact hP, va_K.moved hW.alike hK, hN.warm hW⟩⟩ rfl rfl hl.1 rfl (lv_room (Nat.le_of_ble_eq_true rfl)) d_MO_step_255 ⟨Nat.le_of_ble_eq_true rfl, Nat.le_of_ble_eq_true rfl⟩) hS (fun q _ h => h) (fun q h => h) (fun s138 t H locs ht0 hvm hq hB hz1 hk1 hS => ?_)
          obtain ⟨hP, -, -⟩ := hB
          rw [ht0] at hP
          refine lv_goto (tgt := 336) hx hb d_MO_step_258 (by decide) ?_
          exact W.vret hx hb hr (fun t ht hW => ⟨⟨s138, rfl, hq, by rw [ht]; exact hP, va_K.moved hW.alike hK, hN.warm hW⟩, hS.F ht⟩) hS.2.2 d_MO_step_336
  have hq := hq.2 c102
  refine cw_tabD (tgt := 337) hx hb d_MO_step_38 (by decide) ?_ ?_
  · have e_c1 := lv_neT c1 (a := 0) rfl; have e_c4 := lv_neT c4 (a := 1) rfl; have e_c7 := lv_neT c7 (a := 9) rfl; have e_c44 := lv_neT c44 (a := 10) rfl; have e_c47 := lv_neT c47 (a := 11) rfl; have e_c53 := lv_neT c53 (a := 12) rfl; have e_c56 := lv_neT c56 (a := 13) rfl; have e_c59 := lv_neT c59 (a := 14) rfl; have e_c96 := lv_neT c96 (a := 15) rfl; have e_c99 := lv_neT c99 (a := 16) rfl; have e_c102 := lv_neT c102 (a := 17) rfl
    by_cases g1 : (gA σ 0 ((gA σ 11 (((gI σ 8) - 1).toNatClampNeg)).toNatClampNeg)).toInt < 0
    · exact Or.inl g1
    by_cases g2 : 17 < (gA σ 0 ((gA σ 11 (((gI σ 8) - 1).toNatClampNeg)).toNatClampNeg)).toInt
    · exact Or.inr (Or.inl g2)
    refine Or.inr (Or.inr ?_)
    have g3 : (gA σ 0 ((gA σ 11 (((gI σ 8) - 1).toNatClampNeg)).toNatClampNeg)).toInt = 2 ∨ (gA σ 0 ((gA σ 11 (((gI σ 8) - 1).toNatClampNeg)).toNatClampNeg)).toInt = 3 ∨ (gA σ 0 ((gA σ 11 (((gI σ 8) - 1).toNatClampNeg)).toNatClampNeg)).toInt = 4 ∨ (gA σ 0 ((gA σ 11 (((gI σ 8) - 1).toNatClampNeg)).toNatClampNeg)).toInt = 5 ∨ (gA σ 0 ((gA σ 11 (((gI σ 8) - 1).toNatClampNeg)).toNatClampNeg)).toInt = 6 ∨ (gA σ 0 ((gA σ 11 (((gI σ 8) - 1).toNatClampNeg)).toNatClampNeg)).toInt = 7 ∨ (gA σ 0 ((gA σ 11 (((gI σ 8) - 1).toNatClampNeg)).toNatClampNeg)).toInt = 8 := by omega
    rcases g3 with g3 | g3 | g3 | g3 | g3 | g3 | g3 <;> rw [g3] <;> rfl
  refine lv_aload_n hx hb d_MO_step_337 rfl (lv_at hl 5 rfl) ?_
  refine lv_iload_n hx hb d_MO_step_338 rfl (lv_at hl 4 rfl) ?_
  refine lv_iload_n hx hb d_MO_step_339 rfl (lv_at hl 3 rfl) ?_
  refine va_callv (va_runV (As := [.int ((gI σ 8) - 1), .int (gA σ 11 (((gI σ 8) - 1).toNatClampNeg))]) (rest := []) ⟨hx, hb, hml, hown, hts⟩ (c_MO_pair (D := D) (cs := cs) hi hq) (cwV 2 hts (good_V wC_915 wC_917 wC_41 wC_50 wC_918) rfl rfl rfl (by decide +kernel) ⟨(show 2 + 1 ≤ 4 by omega), (show 8 + (5 + 11) + 56 ≤ 87 by omega)⟩) ⟨mP_blind, va_recv hK hP (ci := 5) (q0 := 0) rfl (wd_at (by decide) rfl), fun U hU hW => ⟨rfl, by rw [hU]; exact hP, va_K.moved hW.alike hK, hN.warm hW⟩⟩ rfl rfl hl.1 rfl (lv_room (Nat.le_of_ble_eq_true rfl)) d_MO_step_340 ⟨Nat.le_of_ble_eq_true rfl, Nat.le_of_ble_eq_true rfl⟩) hS (fun q _ h => h) (fun q h => h) (fun s140 t H locs ht0 hvm hq hB hz1 hk1 hS => ?_)
  obtain ⟨hP, -, -⟩ := hB
  rw [ht0] at hP
  exact W.vret hx hb hr (fun t ht hW => ⟨⟨s140, rfl, hq, by rw [ht]; exact hP, va_K.moved hW.alike hK, hN.warm hW⟩, hS.F ht⟩) hS.2.2 d_MO_step_343
def wp_MO_make (p1 : Int32) (p2 : Int32) (p3 : Int32) (p4 : Int32) (σ : CS) (Q : Int32 → CS → Prop) : Prop := (wp_MO_fits p1 p2 p3 p4 σ (fun r1 s2 => ((r1 = 0 → (wp_MO_fail 1 s2 (fun r117 s118 => Q r117 s118))) ∧ (¬ r1 = 0 → (((gI s2 0) = 48 → (wp_MO_fail 2 s2 (fun r115 s116 => Q r115 s116))) ∧ (¬ (gI s2 0) = 48 → (∀ s5 : CS, s5 = sI s2 5 0 → ((p1 < 2 → (vp_in (gI s5 0) 48 ∧ (∀ s7 : CS, s7 = sA s5 0 (upd (gA s5 0) ((gI s5 0).toNatClampNeg) p1) → (vp_in (gI s7 0) 48 ∧ (∀ s8 : CS, s8 = sA s7 1 (upd (gA s7 1) ((gI s7 0).toNatClampNeg) p2) → (((1 : Int32) = 0 → (vp_in (gI s8 0) 48 ∧ (∀ s10 : CS, s10 = sA s8 2 (upd (gA s8 2) ((gI s8 0).toNatClampNeg) p3) → ((p1 = 9 → (vp_in (gI s10 0) 48 ∧ (∀ s12 : CS, s12 = sA s10 3 (upd (gA s10 3) ((gI s10 0).toNatClampNeg) p4) → (∀ s13 : CS, s13 = sI s12 0 ((gI s12 0) + 1) → Q ((gI s13 0) - 1) s13)))) ∧ (¬ p1 = 9 → ((p1 = 12 → (vp_in (gI s10 0) 48 ∧ (∀ s17 : CS, s17 = sA s10 3 (upd (gA s10 3) ((gI s10 0).toNatClampNeg) p4) → (∀ s18 : CS, s18 = sI s17 0 ((gI s17 0) + 1) → Q ((gI s18 0) - 1) s18)))) ∧ (¬ p1 = 12 → (vp_in (gI s10 0) 48 ∧ (∀ s15 : CS, s15 = sA s10 3 (upd (gA s10 3) ((gI s10 0).toNatClampNeg) (-1)) → (∀ s16 : CS, s16 = sI s15 0 ((gI s15 0) + 1) → Q ((gI s16 0) - 1) s16)))))))))) ∧ (¬ (1 : Int32) = 0 → (vp_in (gI s8 0) 48 ∧ (∀ s19 : CS, s19 = sA s8 2 (upd (gA s8 2) ((gI s8 0).toNatClampNeg) (-1)) → ((p1 = 9 → (vp_in (gI s19 0) 48 ∧ (∀ s21 : CS, s21 = sA s19 3 (upd (gA s19 3) ((gI s19 0).toNatClampNeg) p4) → (∀ s22 : CS, s22 = sI s21 0 ((gI s21 0) + 1) → Q ((gI s22 0) - 1) s22)))) ∧ (¬ p1 = 9 → ((p1 = 12 → (vp_in (gI s19 0) 48 ∧ (∀ s26 : CS, s26 = sA s19 3 (upd (gA s19 3) ((gI s19 0).toNatClampNeg) p4) → (∀ s27 : CS, s27 = sI s26 0 ((gI s26 0) + 1) → Q ((gI s27 0) - 1) s27)))) ∧ (¬ p1 = 12 → (vp_in (gI s19 0) 48 ∧ (∀ s24 : CS, s24 = sA s19 3 (upd (gA s19 3) ((gI s19 0).toNatClampNeg) (-1)) → (∀ s25 : CS, s25 = sI s24 0 ((gI s24 0) + 1) → Q ((gI s25 0) - 1) s25)))))))))))))))) ∧ (¬ p1 < 2 → ((p1 = 10 → (vp_in (gI s5 0) 48 ∧ (∀ s29 : CS, s29 = sA s5 0 (upd (gA s5 0) ((gI s5 0).toNatClampNeg) p1) → (vp_in (gI s29 0) 48 ∧ (∀ s30 : CS, s30 = sA s29 1 (upd (gA s29 1) ((gI s29 0).toNatClampNeg) p2) → (((1 : Int32) = 0 → (vp_in (gI s30 0) 48 ∧ (∀ s32 : CS, s32 = sA s30 2 (upd (gA s30 2) ((gI s30 0).toNatClampNeg) p3) → ((p1 = 9 → (vp_in (gI s32 0) 48 ∧ (∀ s34 : CS, s34 = sA s32 3 (upd (gA s32 3) ((gI s32 0).toNatClampNeg) p4) → (∀ s35 : CS, s35 = sI s34 0 ((gI s34 0) + 1) → Q ((gI s35 0) - 1) s35)))) ∧ (¬ p1 = 9 → ((p1 = 12 → (vp_in (gI s32 0) 48 ∧ (∀ s39 : CS, s39 = sA s32 3 (upd (gA s32 3) ((gI s32 0).toNatClampNeg) p4) → (∀ s40 : CS, s40 = sI s39 0 ((gI s39 0) + 1) → Q ((gI s40 0) - 1) s40)))) ∧ (¬ p1 = 12 → (vp_in (gI s32 0) 48 ∧ (∀ s37 : CS, s37 = sA s32 3 (upd (gA s32 3) ((gI s32 0).toNatClampNeg) (-1)) → (∀ s38 : CS, s38 = sI s37 0 ((gI s37 0) + 1) → Q ((gI s38 0) - 1) s38)))))))))) ∧ (¬ (1 : Int32) = 0 → (vp_in (gI s30 0) 48 ∧ (∀ s41 : CS, s41 = sA s30 2 (upd (gA s30 2) ((gI s30 0).toNatClampNeg) (-1)) → ((p1 = 9 → (vp_in (gI s41 0) 48 ∧ (∀ s43 : CS, s43 = sA s41 3 (upd (gA s41 3) ((gI s41 0).toNatClampNeg) p4) → (∀ s44 : CS, s44 = sI s43 0 ((gI s43 0) + 1) → Q ((gI s44 0) - 1) s44)))) ∧ (¬ p1 = 9 → ((p1 = 12 → (vp_in (gI s41 0) 48 ∧ (∀ s48 : CS, s48 = sA s41 3 (upd (gA s41 3) ((gI s41 0).toNatClampNeg) p4) → (∀ s49 : CS, s49 = sI s48 0 ((gI s48 0) + 1) → Q ((gI s49 0) - 1) s49)))) ∧ (¬ p1 = 12 → (vp_in (gI s41 0) 48 ∧ (∀ s46 : CS, s46 = sA s41 3 (upd (gA s41 3) ((gI s41 0).toNatClampNeg) (-1)) → (∀ s47 : CS, s47 = sI s46 0 ((gI s46 0) + 1) → Q ((gI s47 0) - 1) s47)))))))))))))))) ∧ (¬ p1 = 10 → ((p1 = 11 → (vp_in (gI s5 0) 48 ∧ (∀ s51 : CS, s51 = sA s5 0 (upd (gA s5 0) ((gI s5 0).toNatClampNeg) p1) → (vp_in (gI s51 0) 48 ∧ (∀ s52 : CS, s52 = sA s51 1 (upd (gA s51 1) ((gI s51 0).toNatClampNeg) p2) → (((1 : Int32) = 0 → (vp_in (gI s52 0) 48 ∧ (∀ s54 : CS, s54 = sA s52 2 (upd (gA s52 2) ((gI s52 0).toNatClampNeg) p3) → ((p1 = 9 → (vp_in (gI s54 0) 48 ∧ (∀ s56 : CS, s56 = sA s54 3 (upd (gA s54 3) ((gI s54 0).toNatClampNeg) p4) → (∀ s57 : CS, s57 = sI s56 0 ((gI s56 0) + 1) → Q ((gI s57 0) - 1) s57)))) ∧ (¬ p1 = 9 → ((p1 = 12 → (vp_in (gI s54 0) 48 ∧ (∀ s61 : CS, s61 = sA s54 3 (upd (gA s54 3) ((gI s54 0).toNatClampNeg) p4) → (∀ s62 : CS, s62 = sI s61 0 ((gI s61 0) + 1) → Q ((gI s62 0) - 1) s62)))) ∧ (¬ p1 = 12 → (vp_in (gI s54 0) 48 ∧ (∀ s59 : CS, s59 = sA s54 3 (upd (gA s54 3) ((gI s54 0).toNatClampNeg) (-1)) → (∀ s60 : CS, s60 = sI s59 0 ((gI s59 0) + 1) → Q ((gI s60 0) - 1) s60)))))))))) ∧ (¬ (1 : Int32) = 0 → (vp_in (gI s52 0) 48 ∧ (∀ s63 : CS, s63 = sA s52 2 (upd (gA s52 2) ((gI s52 0).toNatClampNeg) (-1)) → ((p1 = 9 → (vp_in (gI s63 0) 48 ∧ (∀ s65 : CS, s65 = sA s63 3 (upd (gA s63 3) ((gI s63 0).toNatClampNeg) p4) → (∀ s66 : CS, s66 = sI s65 0 ((gI s65 0) + 1) → Q ((gI s66 0) - 1) s66)))) ∧ (¬ p1 = 9 → ((p1 = 12 → (vp_in (gI s63 0) 48 ∧ (∀ s70 : CS, s70 = sA s63 3 (upd (gA s63 3) ((gI s63 0).toNatClampNeg) p4) → (∀ s71 : CS, s71 = sI s70 0 ((gI s70 0) + 1) → Q ((gI s71 0) - 1) s71)))) ∧ (¬ p1 = 12 → (vp_in (gI s63 0) 48 ∧ (∀ s68 : CS, s68 = sA s63 3 (upd (gA s63 3) ((gI s63 0).toNatClampNeg) (-1)) → (∀ s69 : CS, s69 = sI s68 0 ((gI s68 0) + 1) → Q ((gI s69 0) - 1) s69)))))))))))))))) ∧ (¬ p1 = 11 → ((p1 = 16 → (vp_in (gI s5 0) 48 ∧ (∀ s94 : CS, s94 = sA s5 0 (upd (gA s5 0) ((gI s5 0).toNatClampNeg) p1) → (vp_in (gI s94 0) 48 ∧ (∀ s95 : CS, s95 = sA s94 1 (upd (gA s94 1) ((gI s94 0).toNatClampNeg) p2) → (((1 : Int32) = 0 → (vp_in (gI s95 0) 48 ∧ (∀ s97 : CS, s97 = sA s95 2 (upd (gA s95 2) ((gI s95 0).toNatClampNeg) p3) → ((p1 = 9 → (vp_in (gI s97 0) 48 ∧ (∀ s99 : CS, s99 = sA s97 3 (upd (gA s97 3) ((gI s97 0).toNatClampNeg) p4) → (∀ s100 : CS, s100 = sI s99 0 ((gI s99 0) + 1) → Q ((gI s100 0) - 1) s100)))) ∧ (¬ p1 = 9 → ((p1 = 12 → (vp_in (gI s97 0) 48 ∧ (∀ s104 : CS, s104 = sA s97 3 (upd (gA s97 3) ((gI s97 0).toNatClampNeg) p4) → (∀ s105 : CS, s105 = sI s104 0 ((gI s104 0) + 1) → Q ((gI s105 0) - 1) s105)))) ∧ (¬ p1 = 12 → (vp_in (gI s97 0) 48 ∧ (∀ s102 : CS, s102 = sA s97 3 (upd (gA s97 3) ((gI s97 0).toNatClampNeg) (-1)) → (∀ s103 : CS, s103 = sI s102 0 ((gI s102 0) + 1) → Q ((gI s103 0) - 1) s103)))))))))) ∧ (¬ (1 : Int32) = 0 → (vp_in (gI s95 0) 48 ∧ (∀ s106 : CS, s106 = sA s95 2 (upd (gA s95 2) ((gI s95 0).toNatClampNeg) (-1)) → ((p1 = 9 → (vp_in (gI s106 0) 48 ∧ (∀ s108 : CS, s108 = sA s106 3 (upd (gA s106 3) ((gI s106 0).toNatClampNeg) p4) → (∀ s109 : CS, s109 = sI s108 0 ((gI s108 0) + 1) → Q ((gI s109 0) - 1) s109)))) ∧ (¬ p1 = 9 → ((p1 = 12 → (vp_in (gI s106 0) 48 ∧ (∀ s113 : CS, s113 = sA s106 3 (upd (gA s106 3) ((gI s106 0).toNatClampNeg) p4) → (∀ s114 : CS, s114 = sI s113 0 ((gI s113 0) + 1) → Q ((gI s114 0) - 1) s114)))) ∧ (¬ p1 = 12 → (vp_in (gI s106 0) 48 ∧ (∀ s111 : CS, s111 = sA s106 3 (upd (gA s106 3) ((gI s106 0).toNatClampNeg) (-1)) → (∀ s112 : CS, s112 = sI s111 0 ((gI s111 0) + 1) → Q ((gI s112 0) - 1) s112)))))))))))))))) ∧ (¬ p1 = 16 → (vp_in (gI s5 0) 48 ∧ (∀ s73 : CS, s73 = sA s5 0 (upd (gA s5 0) ((gI s5 0).toNatClampNeg) p1) → (vp_in (gI s73 0) 48 ∧ (∀ s74 : CS, s74 = sA s73 1 (upd (gA s73 1) ((gI s73 0).toNatClampNeg) p2) → (((0 : Int32) = 0 → (vp_in (gI s74 0) 48 ∧ (∀ s76 : CS, s76 = sA s74 2 (upd (gA s74 2) ((gI s74 0).toNatClampNeg) p3) → ((p1 = 9 → (vp_in (gI s76 0) 48 ∧ (∀ s78 : CS, s78 = sA s76 3 (upd (gA s76 3) ((gI s76 0).toNatClampNeg) p4) → (∀ s79 : CS, s79 = sI s78 0 ((gI s78 0) + 1) → Q ((gI s79 0) - 1) s79)))) ∧ (¬ p1 = 9 → ((p1 = 12 → (vp_in (gI s76 0) 48 ∧ (∀ s83 : CS, s83 = sA s76 3 (upd (gA s76 3) ((gI s76 0).toNatClampNeg) p4) → (∀ s84 : CS, s84 = sI s83 0 ((gI s83 0) + 1) → Q ((gI s84 0) - 1) s84)))) ∧ (¬ p1 = 12 → (vp_in (gI s76 0) 48 ∧ (∀ s81 : CS, s81 = sA s76 3 (upd (gA s76 3) ((gI s76 0).toNatClampNeg) (-1)) → (∀ s82 : CS, s82 = sI s81 0 ((gI s81 0) + 1) → Q ((gI s82 0) - 1) s82)))))))))) ∧ (¬ (0 : Int32) = 0 → (vp_in (gI s74 0) 48 ∧ (∀ s85 : CS, s85 = sA s74 2 (upd (gA s74 2) ((gI s74 0).toNatClampNeg) (-1)) → ((p1 = 9 → (vp_in (gI s85 0) 48 ∧ (∀ s87 : CS, s87 = sA s85 3 (upd (gA s85 3) ((gI s85 0).toNatClampNeg) p4) → (∀ s88 : CS, s88 = sI s87 0 ((gI s87 0) + 1) → Q ((gI s88 0) - 1) s88)))) ∧ (¬ p1 = 9 → ((p1 = 12 → (vp_in (gI s85 0) 48 ∧ (∀ s92 : CS, s92 = sA s85 3 (upd (gA s85 3) ((gI s85 0).toNatClampNeg) p4) → (∀ s93 : CS, s93 = sI s92 0 ((gI s92 0) + 1) → Q ((gI s93 0) - 1) s93)))) ∧ (¬ p1 = 12 → (vp_in (gI s85 0) 48 ∧ (∀ s90 : CS, s90 = sA s85 3 (upd (gA s85 3) ((gI s85 0).toNatClampNeg) (-1)) → (∀ s91 : CS, s91 = sI s90 0 ((gI s90 0) + 1) → Q ((gI s91 0) - 1) s91))))))))))))))))))))))))))))))
set_option maxHeartbeats 4000000 in
set_option maxRecDepth 100000 in
theorem c_MO_make {l : Launch} {D : va_G} {cs : CI} {am : Nat → Nat} (hi : aI am 25) {p1 : Int32} {p2 : Int32} {p3 : Int32} {p4 : Int32} {σ : CS} {Q : Int32 → CS → Prop} (hq : wp_MO_make p1 p2 p3 p4 σ Q) : Met l y_MO_make (.code y_MO_make b_MO_make 7 (some .int) :: wC) ({ frames := 3, cells := 0, slots := 0, locals := 67 }) (va_Pc [.ref (am 0), .int p1, .int p2, .int p3, .int p4] (mP D cs am σ)) (va_Qi Q (mP D cs am) (aK am 25)) 0 0 (aK am 25) := by
  refine Met.ofW (cc := b_MO_make) (maxL := 7) (ret := (some .int)) (by decide) rfl ?_
  intro p e s m args below meth c s₁ B hml hv
  obtain ⟨rfl, hP, hK, hN⟩ := hv
  have hx := B.exec
  have hb := B.bytes
  have hr := B.returns
  have hts := atoms_spec (ws := .code y_MO_make b_MO_make 7 (some .int) :: wC) B.pre
  have ht : ∀ w ∈ wC, w.before _ s = true := fun w h => hts w (List.mem_cons_of_mem _ h)
  have hown : s.vm.findClass R_MO = some m.cls := findClass_of_methodNamed B.named
  have hlocks := B.notSynchronized
  have hS : va_S (aK am 25) s.heap s.heap [] := va_S.rf
  have hl := lv_entry ([.ref (am 0), .int p1, .int p2, .int p3, .int p4]) (n := 7) (Nat.le_of_ble_eq_true rfl)
  rw [lg_entry_eq]
  generalize (lg_sl ([.ref (am 0), .int p1, .int p2, .int p3, .int p4]) ++ List.replicate (7 - (lg_sl ([.ref (am 0), .int p1, .int p2, .int p3, .int p4])).length) Slot.unset).toArray = ls at hl ⊢
  have hl : lv_has ls 7 [(0, .ref (am 0)), (1, .int p1), (2, .int p2), (3, .int p3), (4, .int p4)] := hl
  unfold wp_MO_make at hq
  have hh8 : 8 < 9 := by decide
  refine lv_aload_n hx hb d_MO_make_0 rfl (lv_at hl 0 rfl) ?_
  refine lv_iload_n hx hb d_MO_make_1 rfl (lv_at hl 1 rfl) ?_
  refine lv_iload_n hx hb d_MO_make_2 rfl (lv_at hl 2 rfl) ?_
  refine lv_iload_n hx hb d_MO_make_3 rfl (lv_at hl 3 rfl) ?_
  refine lv_iload hx hb d_MO_make_4 (lv_at hl 4 rfl) ?_
  refine va_calli (va_runV (As := [.int p1, .int p2, .int p3, .int p4]) (rest := []) ⟨hx, hb, hml, hown, hts⟩ (c_MO_fits (D := D) (cs := cs) hi hq) (cwV 4 hts (good_V wC_808 wC_810 wC_23 wC_50 wC_811) rfl rfl rfl (by decide +kernel) ⟨(show 2 + 1 ≤ 3 by omega), (show 8 + (5 + 11) + 43 ≤ 67 by omega)⟩) ⟨mP_blind, va_recv hK hP (ci := 5) (q0 := 0) rfl (wd_at (by decide) rfl), fun U hU hW => ⟨rfl, by rw [hU]; exact hP, va_K.moved hW.alike hK, hN.warm hW⟩⟩ rfl rfl hl.1 rfl (lv_room (Nat.le_of_ble_eq_true rfl)) d_MO_make_6 ⟨Nat.le_of_ble_eq_true rfl, Nat.le_of_ble_eq_true rfl⟩) hS (fun q _ h => h) (fun q h => h) (fun r1 s2 t H locs ht0 hvm hq hB hz1 hk1 hS => ?_)
  obtain ⟨hP, -, -⟩ := hB
  rw [ht0] at hP
  refine lv_istore (lv' := [(5, .int r1), (0, .ref (am 0)), (1, .int p1), (2, .int p2), (3, .int p3), (4, .int p4)]) hx hb d_MO_make_9 hl (by decide) rfl (fun ls hl => ?_)
  refine lv_iload hx hb d_MO_make_11 (lv_at hl 0 rfl) ?_
  refine lv_if_ne (tgt := 22) hx hb d_MO_make_13 (by decide) (fun c3 => ?_) (fun c3 => ?_)
  · have hq := hq.2 c3
    refine lv_aload_n hx hb d_MO_make_22 rfl (lv_at hl 1 rfl) ?_
    refine cw_get (C := R_MO) (T := F_MO) (N := 39) (v := .int (gI s2 0)) hx hb hts (in_MO _) hown hK hP 0 (by decide) rfl rfl 9 (by decide) (ht _ wC_691) rfl d_MO_make_23 ?_
    refine lv_bipush (v := 48) hx hb d_MO_make_26 (by decide) ?_
    refine lv_icmp_ne (tgt := 37) hx hb d_MO_make_28 (by decide) (fun c4 => ?_) (fun c4 => ?_)
    · have hq := hq.2 c4
      refine lv_aload_n hx hb d_MO_make_37 rfl (lv_at hl 1 rfl) ?_
      refine lv_iconst (v := 0) hx hb d_MO_make_38 (by decide) ?_
      refine cw_put (C := R_MO) (T := F_MO) (N := 39) (ty := .int) (v := .int 0) hx hb hts (in_MO _) t_MO tok_MO n_MO hown hK hP hi hS 0 (by decide) rfl rfl 14 (by decide) (ht _ wC_696) rfl (by decide +kernel) rfl rfl (Nat.le_of_ble_eq_true rfl) up_MO_thrown d_MO_make_39 (fun H locs hP hS => ?_)
      obtain ⟨s5, e_s5⟩ : ∃ z, z = sI s2 5 0 := ⟨_, rfl⟩
      rw [← e_s5] at hP
      have hq := hq s5 e_s5
      refine lv_iload_n hx hb d_MO_make_42 rfl (lv_at hl 2 rfl) ?_
      refine lv_iconst (v := 2) hx hb d_MO_make_43 (by decide) ?_
      refine lv_icmp_lt (tgt := 65) hx hb d_MO_make_44 (by decide) (fun c6 => ?_) (fun c6 => ?_)
      · have hq := hq.1 c6
        refine lv_iconst (v := 1) hx hb d_MO_make_65 (by decide) ?_
        refine lv_goto (tgt := 70) hx hb d_MO_make_66 (by decide) ?_
        refine lv_istore (lv' := [(6, .int 1), (5, .int r1), (0, .ref (am 0)), (1, .int p1), (2, .int p2), (3, .int p3), (4, .int p4)]) hx hb d_MO_make_70 hl (by decide) rfl (fun ls hl => ?_)
        refine lv_aload_n hx hb d_MO_make_72 rfl (lv_at hl 2 rfl) ?_
        refine cw_get (C := R_MO) (T := F_MO) (N := 39) (v := .ref (am 1)) hx hb hts (in_MO _) hown hK hP 0 (by decide) rfl rfl 0 (by decide) (ht _ wC_682) rfl d_MO_make_73 ?_
        refine lv_aload_n hx hb d_MO_make_76 rfl (lv_at hl 2 rfl) ?_
        refine cw_get (C := R_MO) (T := F_MO) (N := 39) (v := .int (gI s5 0)) hx hb hts (in_MO _) hown hK hP 0 (by decide) rfl rfl 9 (by decide) (ht _ wC_691) rfl d_MO_make_77 ?_
        refine lv_iload_n hx hb d_MO_make_80 rfl (lv_at hl 3 rfl) ?_
        refine cw_iast hx hb hK hP hi hS 1 (by decide) rfl 0 rfl hq.1 mpa_0 d_MO_make_81 (fun H locs hP hS => ?_)
        have hq := hq.2
        obtain ⟨s7, e_s7⟩ : ∃ z, z = sA s5 0 (upd (gA s5 0) ((gI s5 0).toNatClampNeg) p1) := ⟨_, rfl⟩
        rw [← e_s7] at hP
        have hq := hq s7 e_s7
        refine lv_aload_n hx hb d_MO_make_82 rfl (lv_at hl 2 rfl) ?_
        refine cw_get (C := R_MO) (T := F_MO) (N := 39) (v := .ref (am 2)) hx hb hts (in_MO _) hown hK hP 0 (by decide) rfl rfl 1 (by decide) (ht _ wC_683) rfl d_MO_make_83 ?_
        refine lv_aload_n hx hb d_MO_make_86 rfl (lv_at hl 2 rfl) ?_
        refine cw_get (C := R_MO) (T := F_MO) (N := 39) (v := .int (gI s7 0)) hx hb hts (in_MO _) hown hK hP 0 (by decide) rfl rfl 9 (by decide) (ht _ wC_691) rfl d_MO_make_87 ?_
        refine lv_iload_n hx hb d_MO_make_90 rfl (lv_at hl 4 rfl) ?_
        refine cw_iast hx hb hK hP hi hS 2 (by decide) rfl 0 rfl hq.1 mpa_1 d_MO_make_91 (fun H locs hP hS => ?_)
        have hq := hq.2
        obtain ⟨s8, e_s8⟩ : ∃ z, z = sA s7 1 (upd (gA s7 1) ((gI s7 0).toNatClampNeg) p2) := ⟨_, rfl⟩
        rw [← e_s8] at hP
        have hq := hq s8 e_s8
        refine lv_aload_n hx hb d_MO_make_92 rfl (lv_at hl 2 rfl) ?_
        refine cw_get (C := R_MO) (T := F_MO) (N := 39) (v := .ref (am 3)) hx hb hts (in_MO _) hown hK hP 0 (by decide) rfl rfl 2 (by decide) (ht _ wC_684) rfl d_MO_make_93 ?_
        refine lv_aload_n hx hb d_MO_make_96 rfl (lv_at hl 2 rfl) ?_
        refine cw_get (C := R_MO) (T := F_MO) (N := 39) (v := .int (gI s8 0)) hx hb hts (in_MO _) hown hK hP 0 (by decide) rfl rfl 9 (by decide) (ht _ wC_691) rfl d_MO_make_97 ?_
        refine lv_iload hx hb d_MO_make_100 (lv_at hl 0 rfl) ?_
        refine lv_if_eq (tgt := 109) hx hb d_MO_make_102 (by decide) (fun c9 => ?_) (fun c9 => ?_)
        · have hq := hq.1 c9
          refine lv_iload_n hx hb d_MO_make_109 rfl (lv_at hl 5 rfl) ?_
          refine cw_iast hx hb hK hP hi hS 3 (by decide) rfl 0 rfl hq.1 mpa_2 d_MO_make_110 (fun H locs hP hS => ?_)
          have hq := hq.2
          obtain ⟨s10, e_s10⟩ : ∃ z, z = sA s8 2 (upd (gA s8 2) ((gI s8 0).toNatClampNeg) p3) := ⟨_, rfl⟩
          rw [← e_s10] at hP
          have hq := hq s10 e_s10
          refine lv_aload_n hx hb d_MO_make_111 rfl (lv_at hl 2 rfl) ?_
          refine cw_get (C := R_MO) (T := F_MO) (N := 39) (v := .ref (am 4)) hx hb hts (in_MO _) hown hK hP 0 (by decide) rfl rfl 3 (by decide) (ht _ wC_685) rfl d_MO_make_112 ?_
          refine lv_aload_n hx hb d_MO_make_115 rfl (lv_at hl 2 rfl) ?_
          refine cw_get (C := R_MO) (T := F_MO) (N := 39) (v := .int (gI s10 0)) hx hb hts (in_MO _) hown hK hP 0 (by decide) rfl rfl 9 (by decide) (ht _ wC_691) rfl d_MO_make_116 ?_
          refine lv_iload_n hx hb d_MO_make_119 rfl (lv_at hl 3 rfl) ?_
          refine lv_bipush (v := 9) hx hb d_MO_make_120 (by decide) ?_
          refine lv_icmp_eq (tgt := 131) hx hb d_MO_make_122 (by decide) (fun c11 => ?_) (fun c11 => ?_)
          · have hq := hq.1 c11
            refine lv_iload hx hb d_MO_make_131 (lv_at hl 6 rfl) ?_
            refine lv_goto (tgt := 137) hx hb d_MO_make_133 (by decide) ?_
            refine cw_iast hx hb hK hP hi hS 4 (by decide) rfl 0 rfl hq.1 mpa_3 d_MO_make_137 (fun H locs hP hS => ?_)
            have hq := hq.2
            obtain ⟨s12, e_s12⟩ : ∃ z, z = sA s10 3 (upd (gA s10 3) ((gI s10 0).toNatClampNeg) p4) := ⟨_, rfl⟩
            rw [← e_s12] at hP
            have hq := hq s12 e_s12
            refine lv_aload_n hx hb d_MO_make_138 rfl (lv_at hl 2 rfl) ?_
            refine lv_dup hx hb d_MO_make_139 rfl ?_
            refine cw_get (C := R_MO) (T := F_MO) (N := 39) (v := .int (gI s12 0)) hx hb hts (in_MO _) hown hK hP 0 (by decide) rfl rfl 9 (by decide) (ht _ wC_691) rfl d_MO_make_140 ?_
            refine lv_iconst (v := 1) hx hb d_MO_make_143 (by decide) ?_
            refine lv_iadd hx hb d_MO_make_144 ?_
            refine cw_put (C := R_MO) (T := F_MO) (N := 39) (ty := .int) (v := .int ((gI s12 0) + 1)) hx hb hts (in_MO _) t_MO tok_MO n_MO hown hK hP hi hS 0 (by decide) rfl rfl 9 (by decide) (ht _ wC_691) rfl (by decide +kernel) rfl rfl (Nat.le_of_ble_eq_true rfl) up_MO_many d_MO_make_145 (fun H locs hP hS => ?_)
            obtain ⟨s13, e_s13⟩ : ∃ z, z = sI s12 0 ((gI s12 0) + 1) := ⟨_, rfl⟩
            rw [← e_s13] at hP
            have hq := hq s13 e_s13
            refine lv_aload_n hx hb d_MO_make_148 rfl (lv_at hl 2 rfl) ?_
            refine cw_get (C := R_MO) (T := F_MO) (N := 39) (v := .int (gI s13 0)) hx hb hts (in_MO _) hown hK hP 0 (by decide) rfl rfl 9 (by decide) (ht _ wC_691) rfl d_MO_make_149 ?_
            refine lv_iconst (v := 1) hx hb d_MO_make_152 (by decide) ?_
            refine lv_isub hx hb d_MO_make_153 ?_
            exact W.iret hx hb hr (fun t ht hW => ⟨⟨((gI s13 0) - 1), s13, rfl, hq, by rw [ht]; exact hP, va_K.moved hW.alike hK, hN.warm hW⟩, hS.F ht⟩) hS.2.2 d_MO_make_154
          · have hq := hq.2 c11
            refine lv_iload_n hx hb d_MO_make_125 rfl (lv_at hl 3 rfl) ?_
            refine lv_bipush (v := 12) hx hb d_MO_make_126 (by decide) ?_
            refine lv_icmp_ne (tgt := 136) hx hb d_MO_make_128 (by decide) (fun c14 => ?_) (fun c14 => ?_)
            · have hq := hq.2 c14
              refine lv_iconst (v := (-1)) hx hb d_MO_make_136 (by decide) ?_
              refine cw_iast hx hb hK hP hi hS 4 (by decide) rfl 0 rfl hq.1 mpa_3 d_MO_make_137 (fun H locs hP hS => ?_)
              have hq := hq.2
              obtain ⟨s15, e_s15⟩ : ∃ z, z = sA s10 3 (upd (gA s10 3) ((gI s10 0).toNatClampNeg) (-1)) := ⟨_, rfl⟩
              rw [← e_s15] at hP
              have hq := hq s15 e_s15
              refine lv_aload_n hx hb d_MO_make_138 rfl (lv_at hl 2 rfl) ?_
              refine lv_dup hx hb d_MO_make_139 rfl ?_
              refine cw_get (C := R_MO) (T := F_MO) (N := 39) (v := .int (gI s15 0)) hx hb hts (in_MO _) hown hK hP 0 (by decide) rfl rfl 9 (by decide) (ht _ wC_691) rfl d_MO_make_140 ?_
              refine lv_iconst (v := 1) hx hb d_MO_make_143 (by decide) ?_
              refine lv_iadd hx hb d_MO_make_144 ?_
              refine cw_put (C := R_MO) (T := F_MO) (N := 39) (ty := .int) (v := .int ((gI s15 0) + 1)) hx hb hts (in_MO _) t_MO tok_MO n_MO hown hK hP hi hS 0 (by decide) rfl rfl 9 (by decide) (ht _ wC_691) rfl (by decide +kernel) rfl rfl (Nat.le_of_ble_eq_true rfl) up_MO_many d_MO_make_145 (fun H locs hP hS => ?_)
              obtain ⟨s16, e_s16⟩ : ∃ z, z = sI s15 0 ((gI s15 0) + 1) := ⟨_, rfl⟩
              rw [← e_s16] at hP
              have hq := hq s16 e_s16
              refine lv_aload_n hx hb d_MO_make_148 rfl (lv_at hl 2 rfl) ?_
              refine cw_get (C := R_MO) (T := F_MO) (N := 39) (v := .int (gI s16 0)) hx hb hts (in_MO _) hown hK hP 0 (by decide) rfl rfl 9 (by decide) (ht _ wC_691) rfl d_MO_make_149 ?_
              refine lv_iconst (v := 1) hx hb d_MO_make_152 (by decide) ?_
              refine lv_isub hx hb d_MO_make_153 ?_
              exact W.iret hx hb hr (fun t ht hW => ⟨⟨((gI s16 0) - 1), s16, rfl, hq, by rw [ht]; exact hP, va_K.moved hW.alike hK, hN.warm hW⟩, hS.F ht⟩) hS.2.2 d_MO_make_154
            · have hq := hq.1 c14
              refine lv_iload hx hb d_MO_make_131 (lv_at hl 6 rfl) ?_
              refine lv_goto (tgt := 137) hx hb d_MO_make_133 (by decide) ?_
              refine cw_iast hx hb hK hP hi hS 4 (by decide) rfl 0 rfl hq.1 mpa_3 d_MO_make_137 (fun H locs hP hS => ?_)
              have hq := hq.2
              obtain ⟨s17, e_s17⟩ : ∃ z, z = sA s10 3 (upd (gA s10 3) ((gI s10 0).toNatClampNeg) p4) := ⟨_, rfl⟩
              rw [← e_s17] at hP
              have hq := hq s17 e_s17
              refine lv_aload_n hx hb d_MO_make_138 rfl (lv_at hl 2 rfl) ?_
              refine lv_dup hx hb d_MO_make_139 rfl ?_
              refine cw_get (C := R_MO) (T := F_MO) (N := 39) (v := .int (gI s17 0)) hx hb hts (in_MO _) hown hK hP 0 (by decide) rfl rfl 9 (by decide) (ht _ wC_691) rfl d_MO_make_140 ?_
              refine lv_iconst (v := 1) hx hb d_MO_make_143 (by decide) ?_
              refine lv_iadd hx hb d_MO_make_144 ?_
              refine cw_put (C := R_MO) (T := F_MO) (N := 39) (ty := .int) (v := .int ((gI s17 0) + 1)) hx hb hts (in_MO _) t_MO tok_MO n_MO hown hK hP hi hS 0 (by decide) rfl rfl 9 (by decide) (ht _ wC_691) rfl (by decide +kernel) rfl rfl (Nat.le_of_ble_eq_true rfl) up_MO_many d_MO_make_145 (fun H locs hP hS => ?_)
              obtain ⟨s18, e_s18⟩ : ∃ z, z = sI s17 0 ((gI s17 0) + 1) := ⟨_, rfl⟩
              rw [← e_s18] at hP
              have hq := hq s18 e_s18
              refine lv_aload_n hx hb d_MO_make_148 rfl (lv_at hl 2 rfl) ?_
              refine cw_get (C := R_MO) (T := F_MO) (N := 39) (v := .int (gI s18 0)) hx hb hts (in_MO _) hown hK hP 0 (by decide) rfl rfl 9 (by decide) (ht _ wC_691) rfl d_MO_make_149 ?_
              refine lv_iconst (v := 1) hx hb d_MO_make_152 (by decide) ?_
              refine lv_isub hx hb d_MO_make_153 ?_
              exact W.iret hx hb hr (fun t ht hW => ⟨⟨((gI s18 0) - 1), s18, rfl, hq, by rw [ht]; exact hP, va_K.moved hW.alike hK, hN.warm hW⟩, hS.F ht⟩) hS.2.2 d_MO_make_154
        · have hq := hq.2 c9
          refine lv_iconst (v := (-1)) hx hb d_MO_make_105 (by decide) ?_
          refine lv_goto (tgt := 110) hx hb d_MO_make_106 (by decide) ?_
          refine cw_iast hx hb hK hP hi hS 3 (by decide) rfl 0 rfl hq.1 mpa_2 d_MO_make_110 (fun H locs hP hS => ?_)
          have hq := hq.2
          obtain ⟨s19, e_s19⟩ : ∃ z, z = sA s8 2 (upd (gA s8 2) ((gI s8 0).toNatClampNeg) (-1)) := ⟨_, rfl⟩
          rw [← e_s19] at hP
          have hq := hq s19 e_s19
          refine lv_aload_n hx hb d_MO_make_111 rfl (lv_at hl 2 rfl) ?_
          refine cw_get (C := R_MO) (T := F_MO) (N := 39) (v := .ref (am 4)) hx hb hts (in_MO _) hown hK hP 0 (by decide) rfl rfl 3 (by decide) (ht _ wC_685) rfl d_MO_make_112 ?_
          refine lv_aload_n hx hb d_MO_make_115 rfl (lv_at hl 2 rfl) ?_
          refine cw_get (C := R_MO) (T := F_MO) (N := 39) (v := .int (gI s19 0)) hx hb hts (in_MO _) hown hK hP 0 (by decide) rfl rfl 9 (by decide) (ht _ wC_691) rfl d_MO_make_116 ?_
          refine lv_iload_n hx hb d_MO_make_119 rfl (lv_at hl 3 rfl) ?_
          refine lv_bipush (v := 9) hx hb d_MO_make_120 (by decide) ?_
          refine lv_icmp_eq (tgt := 131) hx hb d_MO_make_122 (by decide) (fun c20 => ?_) (fun c20 => ?_)
          · have hq := hq.1 c20
            refine lv_iload hx hb d_MO_make_131 (lv_at hl 6 rfl) ?_
            refine lv_goto (tgt := 137) hx hb d_MO_make_133 (by decide) ?_
            refine cw_iast hx hb hK hP hi hS 4 (by decide) rfl 0 rfl hq.1 mpa_3 d_MO_make_137 (fun H locs hP hS => ?_)
            have hq := hq.2
            obtain ⟨s21, e_s21⟩ : ∃ z, z = sA s19 3 (upd (gA s19 3) ((gI s19 0).toNatClampNeg) p4) := ⟨_, rfl⟩
            rw [← e_s21] at hP
            have hq := hq s21 e_s21
            refine lv_aload_n hx hb d_MO_make_138 rfl (lv_at hl 2 rfl) ?_
            refine lv_dup hx hb d_MO_make_139 rfl ?_
            refine cw_get (C := R_MO) (T := F_MO) (N := 39) (v := .int (gI s21 0)) hx hb hts (in_MO _) hown hK hP 0 (by decide) rfl rfl 9 (by decide) (ht _ wC_691) rfl d_MO_make_140 ?_
            refine lv_iconst (v := 1) hx hb d_MO_make_143 (by decide) ?_
            refine lv_iadd hx hb d_MO_make_144 ?_
            refine cw_put (C := R_MO) (T := F_MO) (N := 39) (ty := .int) (v := .int ((gI s21 0) + 1)) hx hb hts (in_MO _) t_MO tok_MO n_MO hown hK hP hi hS 0 (by decide) rfl rfl 9 (by decide) (ht _ wC_691) rfl (by decide +kernel) rfl rfl (Nat.le_of_ble_eq_true rfl) up_MO_many d_MO_make_145 (fun H locs hP hS => ?_)
            obtain ⟨s22, e_s22⟩ : ∃ z, z = sI s21 0 ((gI s21 0) + 1) := ⟨_, rfl⟩
            rw [← e_s22] at hP
            have hq := hq s22 e_s22
            refine lv_aload_n hx hb d_MO_make_148 rfl (lv_at hl 2 rfl) ?_
            refine cw_get (C := R_MO) (T := F_MO) (N := 39) (v := .int (gI s22 0)) hx hb hts (in_MO _) hown hK hP 0 (by decide) rfl rfl 9 (by decide) (ht _ wC_691) rfl d_MO_make_149 ?_
            refine lv_iconst (v := 1) hx hb d_MO_make_152 (by decide) ?_
            refine lv_isub hx hb d_MO_make_153 ?_
            exact W.iret hx hb hr (fun t ht hW => ⟨⟨((gI s22 0) - 1), s22, rfl, hq, by rw [ht]; exact hP, va_K.moved hW.alike hK, hN.warm hW⟩, hS.F ht⟩) hS.2.2 d_MO_make_154
          · have hq := hq.2 c20
            refine lv_iload_n hx hb d_MO_make_125 rfl (lv_at hl 3 rfl) ?_
            refine lv_bipush (v := 12) hx hb d_MO_make_126 (by decide) ?_
            refine lv_icmp_ne (tgt := 136) hx hb d_MO_make_128 (by decide) (fun c23 => ?_) (fun c23 => ?_)
            · have hq := hq.2 c23
              refine lv_iconst (v := (-1)) hx hb d_MO_make_136 (by decide) ?_
              refine cw_iast hx hb hK hP hi hS 4 (by decide) rfl 0 rfl hq.1 mpa_3 d_MO_make_137 (fun H locs hP hS => ?_)
              have hq := hq.2
              obtain ⟨s24, e_s24⟩ : ∃ z, z = sA s19 3 (upd (gA s19 3) ((gI s19 0).toNatClampNeg) (-1)) := ⟨_, rfl⟩
              rw [← e_s24] at hP
              have hq := hq s24 e_s24
              refine lv_aload_n hx hb d_MO_make_138 rfl (lv_at hl 2 rfl) ?_
              refine lv_dup hx hb d_MO_make_139 rfl ?_
              refine cw_get (C := R_MO) (T := F_MO) (N := 39) (v := .int (gI s24 0)) hx hb hts (in_MO _) hown hK hP 0 (by decide) rfl rfl 9 (by decide) (ht _ wC_691) rfl d_MO_make_140 ?_
              refine lv_iconst (v := 1) hx hb d_MO_make_143 (by decide) ?_
              refine lv_iadd hx hb d_MO_make_144 ?_
              refine cw_put (C := R_MO) (T := F_MO) (N := 39) (ty := .int) (v := .int ((gI s24 0) + 1)) hx hb hts (in_MO _) t_MO tok_MO n_MO hown hK hP hi hS 0 (by decide) rfl rfl 9 (by decide) (ht _ wC_691) rfl (by decide +kernel) rfl rfl (Nat.le_of_ble_eq_true rfl) up_MO_many d_MO_make_145 (fun H locs hP hS => ?_)
              obtain ⟨s25, e_s25⟩ : ∃ z, z = sI s24 0 ((gI s24 0) + 1) := ⟨_, rfl⟩
              rw [← e_s25] at hP
              have hq := hq s25 e_s25
              refine lv_aload_n hx hb d_MO_make_148 rfl (lv_at hl 2 rfl) ?_
              refine cw_get (C := R_MO) (T := F_MO) (N := 39) (v := .int (gI s25 0)) hx hb hts (in_MO _) hown hK hP 0 (by decide) rfl rfl 9 (by decide) (ht _ wC_691) rfl d_MO_make_149 ?_
              refine lv_iconst (v := 1) hx hb d_MO_make_152 (by decide) ?_
              refine lv_isub hx hb d_MO_make_153 ?_
              exact W.iret hx hb hr (fun t ht hW => ⟨⟨((gI s25 0) - 1), s25, rfl, hq, by rw [ht]; exact hP, va_K.moved hW.alike hK, hN.warm hW⟩, hS.F ht⟩) hS.2.2 d_MO_make_154
            · have hq := hq.1 c23
              refine lv_iload hx hb d_MO_make_131 (lv_at hl 6 rfl) ?_
              refine lv_goto (tgt := 137) hx hb d_MO_make_133 (by decide) ?_
              refine cw_iast hx hb hK hP hi hS 4 (by decide) rfl 0 rfl hq.1 mpa_3 d_MO_make_137 (fun H locs hP hS => ?_)
              have hq := hq.2
              obtain ⟨s26, e_s26⟩ : ∃ z, z = sA s19 3 (upd (gA s19 3) ((gI s19 0).toNatClampNeg) p4) := ⟨_, rfl⟩
              rw [← e_s26] at hP
              have hq := hq s26 e_s26
              refine lv_aload_n hx hb d_MO_make_138 rfl (lv_at hl 2 rfl) ?_
              refine lv_dup hx hb d_MO_make_139 rfl ?_
              refine cw_get (C := R_MO) (T := F_MO) (N := 39) (v := .int (gI s26 0)) hx hb hts (in_MO _) hown hK hP 0 (by decide) rfl rfl 9 (by decide) (ht _ wC_691) rfl d_MO_make_140 ?_
              refine lv_iconst (v := 1) hx hb d_MO_make_143 (by decide) ?_
              refine lv_iadd hx hb d_MO_make_144 ?_
              refine cw_put (C := R_MO) (T := F_MO) (N := 39) (ty := .int) (v := .int ((gI s26 0) + 1)) hx hb hts (in_MO _) t_MO tok_MO n_MO hown hK hP hi hS 0 (by decide) rfl rfl 9 (by decide) (ht _ wC_691) rfl (by decide +kernel) rfl rfl (Nat.le_of_ble_eq_true rfl) up_MO_many d_MO_make_145 (fun H locs hP hS => ?_)
              obtain ⟨s27, e_s27⟩ : ∃ z, z = sI s26 0 ((gI s26 0) + 1) := ⟨_, rfl⟩
              rw [← e_s27] at hP
              have hq := hq s27 e_s27
              refine lv_aload_n hx hb d_MO_make_148 rfl (lv_at hl 2 rfl) ?_
              refine cw_get (C := R_MO) (T := F_MO) (N := 39) (v := .int (gI s27 0)) hx hb hts (in_MO _) hown hK hP 0 (by decide) rfl rfl 9 (by decide) (ht _ wC_691) rfl d_MO_make_149 ?_
              refine lv_iconst (v := 1) hx hb d_MO_make_152 (by decide) ?_
              refine lv_isub hx hb d_MO_make_153 ?_
              exact W.iret hx hb hr (fun t ht hW => ⟨⟨((gI s27 0) - 1), s27, rfl, hq, by rw [ht]; exact hP, va_K.moved hW.alike hK, hN.warm hW⟩, hS.F ht⟩) hS.2.2 d_MO_make_154
      · have hq := hq.2 c6
        refine lv_iload_n hx hb d_MO_make_47 rfl (lv_at hl 2 rfl) ?_
        refine lv_bipush (v := 10) hx hb d_MO_make_48 (by decide) ?_
        refine lv_icmp_eq (tgt := 65) hx hb d_MO_make_50 (by decide) (fun c28 => ?_) (fun c28 => ?_)
        · have hq := hq.1 c28
          refine lv_iconst (v := 1) hx hb d_MO_make_65 (by decide) ?_
          refine lv_goto (tgt := 70) hx hb d_MO_make_66 (by decide) ?_
          refine lv_istore (lv' := [(6, .int 1), (5, .int r1), (0, .ref (am 0)), (1, .int p1), (2, .int p2), (3, .int p3), (4, .int p4)]) hx hb d_MO_make_70 hl (by decide) rfl (fun ls hl => ?_)
          refine lv_aload_n hx hb d_MO_make_72 rfl (lv_at hl 2 rfl) ?_
          refine cw_get (C := R_MO) (T := F_MO) (N := 39) (v := .ref (am 1)) hx hb hts (in_MO _) hown hK hP 0 (by decide) rfl rfl 0 (by decide) (ht _ wC_682) rfl d_MO_make_73 ?_
          refine lv_aload_n hx hb d_MO_make_76 rfl (lv_at hl 2 rfl) ?_
          refine cw_get (C := R_MO) (T := F_MO) (N := 39) (v := .int (gI s5 0)) hx hb hts (in_MO _) hown hK hP 0 (by decide) rfl rfl 9 (by decide) (ht _ wC_691) rfl d_MO_make_77 ?_
          refine lv_iload_n hx hb d_MO_make_80 rfl (lv_at hl 3 rfl) ?_
          refine cw_iast hx hb hK hP hi hS 1 (by decide) rfl 0 rfl hq.1 mpa_0 d_MO_make_81 (fun H locs hP hS => ?_)
          have hq := hq.2
          obtain ⟨s29, e_s29⟩ : ∃ z, z = sA s5 0 (upd (gA s5 0) ((gI s5 0).toNatClampNeg) p1) := ⟨_, rfl⟩
          rw [← e_s29] at hP
          have hq := hq s29 e_s29
          refine lv_aload_n hx hb d_MO_make_82 rfl (lv_at hl 2 rfl) ?_
          refine cw_get (C := R_MO) (T := F_MO) (N := 39) (v := .ref (am 2)) hx hb hts (in_MO _) hown hK hP 0 (by decide) rfl rfl 1 (by decide) (ht _ wC_683) rfl d_MO_make_83 ?_
          refine lv_aload_n hx hb d_MO_make_86 rfl (lv_at hl 2 rfl) ?_
          refine cw_get (C := R_MO) (T := F_MO) (N := 39) (v := .int (gI s29 0)) hx hb hts (in_MO _) hown hK hP 0 (by decide) rfl rfl 9 (by decide) (ht _ wC_691) rfl d_MO_make_87 ?_
          refine lv_iload_n hx hb d_MO_make_90 rfl (lv_at hl 4 rfl) ?_
          refine cw_iast hx hb hK hP hi hS 2 (by decide) rfl 0 rfl hq.1 mpa_1 d_MO_make_91 (fun H locs hP hS => ?_)
          have hq := hq.2
          obtain ⟨s30, e_s30⟩ : ∃ z, z = sA s29 1 (upd (gA s29 1) ((gI s29 0).toNatClampNeg) p2) := ⟨_, rfl⟩
          rw [← e_s30] at hP
          have hq := hq s30 e_s30
          refine lv_aload_n hx hb d_MO_make_92 rfl (lv_at hl 2 rfl) ?_
          refine cw_get (C := R_MO) (T := F_MO) (N := 39) (v := .ref (am 3)) hx hb hts (in_MO _) hown hK hP 0 (by decide) rfl rfl 2 (by decide) (ht _ wC_684) rfl d_MO_make_93 ?_
          refine lv_aload_n hx hb d_MO_make_96 rfl (lv_at hl 2 rfl) ?_
          refine cw_get (C := R_MO) (T := F_MO) (N := 39) (v := .int (gI s30 0)) hx hb hts (in_MO _) hown hK hP 0 (by decide) rfl rfl 9 (by decide) (ht _ wC_691) rfl d_MO_make_97 ?_
          refine lv_iload hx hb d_MO_make_100 (lv_at hl 0 rfl) ?_
          refine lv_if_eq (tgt := 109) hx hb d_MO_make_102 (by decide) (fun c31 => ?_) (fun c31 => ?_)
          · have hq := hq.1 c31
            refine lv_iload_n hx hb d_MO_make_109 rfl (lv_at hl 5 rfl) ?_
            refine cw_iast hx hb hK hP hi hS 3 (by decide) rfl 0 rfl hq.1 mpa_2 d_MO_make_110 (fun H locs hP hS => ?_)
            have hq := hq.2
            obtain ⟨s32, e_s32⟩ : ∃ z, z = sA s30 2 (upd (gA s30 2) ((gI s30 0).toNatClampNeg) p3) := ⟨_, rfl⟩
            rw [← e_s32] at hP
            have hq := hq s32 e_s32
            refine lv_aload_n hx hb d_MO_make_111 rfl (lv_at hl 2 rfl) ?_
            refine cw_get (C := R_MO) (T := F_MO) (N := 39) (v := .ref (am 4)) hx hb hts (in_MO _) hown hK hP 0 (by decide) rfl rfl 3 (by decide) (ht _ wC_685) rfl d_MO_make_112 ?_
            refine lv_aload_n hx hb d_MO_make_115 rfl (lv_at hl 2 rfl) ?_
            refine cw_get (C := R_MO) (T := F_MO) (N := 39) (v := .int (gI s32 0)) hx hb hts (in_MO _) hown hK hP 0 (by decide) rfl rfl 9 (by decide) (ht _ wC_691) rfl d_MO_make_116 ?_
            refine lv_iload_n hx hb d_MO_make_119 rfl (lv_at hl 3 rfl) ?_
            refine lv_bipush (v := 9) hx hb d_MO_make_120 (by decide) ?_
            refine lv_icmp_eq (tgt := 131) hx hb d_MO_make_122 (by decide) (fun c33 => ?_) (fun c33 => ?_)
            · have hq := hq.1 c33
              refine lv_iload hx hb d_MO_make_131 (lv_at hl 6 rfl) ?_
              refine lv_goto (tgt := 137) hx hb d_MO_make_133 (by decide) ?_
              refine cw_iast hx hb hK hP hi hS 4 (by decide) rfl 0 rfl hq.1 mpa_3 d_MO_make_137 (fun H locs hP hS => ?_)
              have hq := hq.2
              obtain ⟨s34, e_s34⟩ : ∃ z, z = sA s32 3 (upd (gA s32 3) ((gI s32 0).toNatClampNeg) p4) := ⟨_, rfl⟩
              rw [← e_s34] at hP
              have hq := hq s34 e_s34
              refine lv_aload_n hx hb d_MO_make_138 rfl (lv_at hl 2 rfl) ?_
              refine lv_dup hx hb d_MO_make_139 rfl ?_
              refine cw_get (C := R_MO) (T := F_MO) (N := 39) (v := .int (gI s34 0)) hx hb hts (in_MO _) hown hK hP 0 (by decide) rfl rfl 9 (by decide) (ht _ wC_691) rfl d_MO_make_140 ?_
              refine lv_iconst (v := 1) hx hb d_MO_make_143 (by decide) ?_
              refine lv_iadd hx hb d_MO_make_144 ?_
              refine cw_put (C := R_MO) (T := F_MO) (N := 39) (ty := .int) (v := .int ((gI s34 0) + 1)) hx hb hts (in_MO _) t_MO tok_MO n_MO hown hK hP hi hS 0 (by decide) rfl rfl 9 (by decide) (ht _ wC_691) rfl (by decide +kernel) rfl rfl (Nat.le_of_ble_eq_true rfl) up_MO_many d_MO_make_145 (fun H locs hP hS => ?_)
              obtain ⟨s35, e_s35⟩ : ∃ z, z = sI s34 0 ((gI s34 0) + 1) := ⟨_, rfl⟩
              rw [← e_s35] at hP
              have hq := hq s35 e_s35
              refine lv_aload_n hx hb d_MO_make_148 rfl (lv_at hl 2 rfl) ?_
              refine cw_get (C := R_MO) (T := F_MO) (N := 39) (v := .int (gI s35 0)) hx hb hts (in_MO _) hown hK hP 0 (by decide) rfl rfl 9 (by decide) (ht _ wC_691) rfl d_MO_make_149 ?_
              refine lv_iconst (v := 1) hx hb d_MO_make_152 (by decide) ?_
              refine lv_isub hx hb d_MO_make_153 ?_
              exact W.iret hx hb hr (fun t ht hW => ⟨⟨((gI s35 0) - 1), s35, rfl, hq, by rw [ht]; exact hP, va_K.moved hW.alike hK, hN.warm hW⟩, hS.F ht⟩) hS.2.2 d_MO_make_154
            · have hq := hq.2 c33
              refine lv_iload_n hx hb d_MO_make_125 rfl (lv_at hl 3 rfl) ?_
              refine lv_bipush (v := 12) hx hb d_MO_make_126 (by decide) ?_
              refine lv_icmp_ne (tgt := 136) hx hb d_MO_make_128 (by decide) (fun c36 => ?_) (fun c36 => ?_)
              · have hq := hq.2 c36
                refine lv_iconst (v := (-1)) hx hb d_MO_make_136 (by decide) ?_
                refine cw_iast hx hb hK hP hi hS 4 (by decide) rfl 0 rfl hq.1 mpa_3 d_MO_make_137 (fun H locs hP hS => ?_)
                have hq := hq.2
                obtain ⟨s37, e_s37⟩ : ∃ z, z = sA s32 3 (upd (gA s32 3) ((gI s32 0).toNatClampNeg) (-1)) := ⟨_, rfl⟩
                rw [← e_s37] at hP
                have hq := hq s37 e_s37
                refine lv_aload_n hx hb d_MO_make_138 rfl (lv_at hl 2 rfl) ?_
                refine lv_dup hx hb d_MO_make_139 rfl ?_
                refine cw_get (C := R_MO) (T := F_MO) (N := 39) (v := .int (gI s37 0)) hx hb hts (in_MO _) hown hK hP 0 (by decide) rfl rfl 9 (by decide) (ht _ wC_691) rfl d_MO_make_140 ?_
                refine lv_iconst (v := 1) hx hb d_MO_make_143 (by decide) ?_
                refine lv_iadd hx hb d_MO_make_144 ?_
                refine cw_put (C := R_MO) (T := F_MO) (N := 39) (ty := .int) (v := .int ((gI s37 0) + 1)) hx hb hts (in_MO _) t_MO tok_MO n_MO hown hK hP hi hS 0 (by decide) rfl rfl 9 (by decide) (ht _ wC_691) rfl (by decide +kernel) rfl rfl (Nat.le_of_ble_eq_true rfl) up_MO_many d_MO_make_145 (fun H locs hP hS => ?_)
                obtain ⟨s38, e_s38⟩ : ∃ z, z = sI s37 0 ((gI s37 0) + 1) := ⟨_, rfl⟩
                rw [← e_s38] at hP
                have hq := hq s38 e_s38
                refine lv_aload_n hx hb d_MO_make_148 rfl (lv_at hl 2 rfl) ?_
                refine cw_get (C := R_MO) (T := F_MO) (N := 39) (v := .int (gI s38 0)) hx hb hts (in_MO _) hown hK hP 0 (by decide) rfl rfl 9 (by decide) (ht _ wC_691) rfl d_MO_make_149 ?_
                refine lv_iconst (v := 1) hx hb d_MO_make_152 (by decide) ?_
                refine lv_isub hx hb d_MO_make_153 ?_
                exact W.iret hx hb hr (fun t ht hW => ⟨⟨((gI s38 0) - 1), s38, rfl, hq, by rw [ht]; exact hP, va_K.moved hW.alike hK, hN.warm hW⟩, hS.F ht⟩) hS.2.2 d_MO_make_154
              · have hq := hq.1 c36
                refine lv_iload hx hb d_MO_make_131 (lv_at hl 6 rfl) ?_
                refine lv_goto (tgt := 137) hx hb d_MO_make_133 (by decide) ?_
                refine cw_iast hx hb hK hP hi hS 4 (by decide) rfl 0 rfl hq.1 mpa_3 d_MO_make_137 (fun H locs hP hS => ?_)
                have hq := hq.2
                obtain ⟨s39, e_s39⟩ : ∃ z, z = sA s32 3 (upd (gA s32 3) ((gI s32 0).toNatClampNeg) p4) := ⟨_, rfl⟩
                rw [← e_s39] at hP
                have hq := hq s39 e_s39
                refine lv_aload_n hx hb d_MO_make_138 rfl (lv_at hl 2 rfl) ?_
                refine lv_dup hx hb d_MO_make_139 rfl ?_
                refine cw_get (C := R_MO) (T := F_MO) (N := 39) (v := .int (gI s39 0)) hx hb hts (in_MO _) hown hK hP 0 (by decide) rfl rfl 9 (by decide) (ht _ wC_691) rfl d_MO_make_140 ?_
                refine lv_iconst (v := 1) hx hb d_MO_make_143 (by decide) ?_
                refine lv_iadd hx hb d_MO_make_144 ?_
                refine cw_put (C := R_MO) (T := F_MO) (N := 39) (ty := .int) (v := .int ((gI s39 0) + 1)) hx hb hts (in_MO _) t_MO tok_MO n_MO hown hK hP hi hS 0 (by decide) rfl rfl 9 (by decide) (ht _ wC_691) rfl (by decide +kernel) rfl rfl (Nat.le_of_ble_eq_true rfl) up_MO_many d_MO_make_145 (fun H locs hP hS => ?_)
                obtain ⟨s40, e_s40⟩ : ∃ z, z = sI s39 0 ((gI s39 0) + 1) := ⟨_, rfl⟩
                rw [← e_s40] at hP
                have hq := hq s40 e_s40
                refine lv_aload_n hx hb d_MO_make_148 rfl (lv_at hl 2 rfl) ?_
                refine cw_get (C := R_MO) (T := F_MO) (N := 39) (v := .int (gI s40 0)) hx hb hts (in_MO _) hown hK hP 0 (by decide) rfl rfl 9 (by decide) (ht _ wC_691) rfl d_MO_make_149 ?_
                refine lv_iconst (v := 1) hx hb d_MO_make_152 (by decide) ?_
                refine lv_isub hx hb d_MO_make_153 ?_
                exact W.iret hx hb hr (fun t ht hW => ⟨⟨((gI s40 0) - 1), s40, rfl, hq, by rw [ht]; exact hP, va_K.moved hW.alike hK, hN.warm hW⟩, hS.F ht⟩) hS.2.2 d_MO_make_154
          · have hq := hq.2 c31
            refine lv_iconst (v := (-1)) hx hb d_MO_make_105 (by decide) ?_
            refine lv_goto (tgt := 110) hx hb d_MO_make_106 (by decide) ?_
            refine cw_iast hx hb hK hP hi hS 3 (by decide) rfl 0 rfl hq.1 mpa_2 d_MO_make_110 (fun H locs hP hS => ?_)
            have hq := hq.2
            obtain ⟨s41, e_s41⟩ : ∃ z, z = sA s30 2 (upd (gA s30 2) ((gI s30 0).toNatClampNeg) (-1)) := ⟨_, rfl⟩
            rw [← e_s41] at hP
            have hq := hq s41 e_s41
            refine lv_aload_n hx hb d_MO_make_111 rfl (lv_at hl 2 rfl) ?_
            refine cw_get (C := R_MO) (T := F_MO) (N := 39) (v := .ref (am 4)) hx hb hts (in_MO _) hown hK hP 0 (by decide) rfl rfl 3 (by decide) (ht _ wC_685) rfl d_MO_make_112 ?_
            refine lv_aload_n hx hb d_MO_make_115 rfl (lv_at hl 2 rfl) ?_
            refine cw_get (C := R_MO) (T := F_MO) (N := 39) (v := .int (gI s41 0)) hx hb hts (in_MO _) hown hK hP 0 (by decide) rfl rfl 9 (by decide) (ht _ wC_691) rfl d_MO_make_116 ?_
            refine lv_iload_n hx hb d_MO_make_119 rfl (lv_at hl 3 rfl) ?_
            refine lv_bipush (v := 9) hx hb d_MO_make_120 (by decide) ?_
            refine lv_icmp_eq (tgt := 131) hx hb d_MO_make_122 (by decide) (fun c42 => ?_) (fun c42 => ?_)
            · have hq := hq.1 c42
              refine lv_iload hx hb d_MO_make_131 (lv_at hl 6 rfl) ?_
              refine lv_goto (tgt := 137) hx hb d_MO_make_133 (by decide) ?_
              refine cw_iast hx hb hK hP hi hS 4 (by decide) rfl 0 rfl hq.1 mpa_3 d_MO_make_137 (fun H locs hP hS => ?_)
              have hq := hq.2
              obtain ⟨s43, e_s43⟩ : ∃ z, z = sA s41 3 (upd (gA s41 3) ((gI s41 0).toNatClampNeg) p4) := ⟨_, rfl⟩
              rw [← e_s43] at hP
              have hq := hq s43 e_s43
              refine lv_aload_n hx hb d_MO_make_138 rfl (lv_at hl 2 rfl) ?_
              refine lv_dup hx hb d_MO_make_139 rfl ?_
              refine cw_get (C := R_MO) (T := F_MO) (N := 39) (v := .int (gI s43 0)) hx hb hts (in_MO _) hown hK hP 0 (by decide) rfl rfl 9 (by decide) (ht _ wC_691) rfl d_MO_make_140 ?_
              refine lv_iconst (v := 1) hx hb d_MO_make_143 (by decide) ?_
              refine lv_iadd hx hb d_MO_make_144 ?_
              refine cw_put (C := R_MO) (T := F_MO) (N := 39) (ty := .int) (v := .int ((gI s43 0) + 1)) hx hb hts (in_MO _) t_MO tok_MO n_MO hown hK hP hi hS 0 (by decide) rfl rfl 9 (by decide) (ht _ wC_691) rfl (by decide +kernel) rfl rfl (Nat.le_of_ble_eq_true rfl) up_MO_many d_MO_make_145 (fun H locs hP hS => ?_)
              obtain ⟨s44, e_s44⟩ : ∃ z, z = sI s43 0 ((gI s43 0) + 1) := ⟨_, rfl⟩
              rw [← e_s44] at hP
              have hq := hq s44 e_s44
              refine lv_aload_n hx hb d_MO_make_148 rfl (lv_at hl 2 rfl) ?_
              refine cw_get (C := R_MO) (T := F_MO) (N := 39) (v := .int (gI s44 0)) hx hb hts (in_MO _) hown hK hP 0 (by decide) rfl rfl 9 (by decide) (ht _ wC_691) rfl d_MO_make_149 ?_
              refine lv_iconst (v := 1) hx hb d_MO_make_152 (by decide) ?_
              refine lv_isub hx hb d_MO_make_153 ?_
              exact W.iret hx hb hr (fun t ht hW => ⟨⟨((gI s44 0) - 1), s44, rfl, hq, by rw [ht]; exact hP, va_K.moved hW.alike hK, hN.warm hW⟩, hS.F ht⟩) hS.2.2 d_MO_make_154
            · have hq := hq.2 c42
              refine lv_iload_n hx hb d_MO_make_125 rfl (lv_at hl 3 rfl) ?_
              refine lv_bipush (v := 12) hx hb d_MO_make_126 (by decide) ?_
              refine lv_icmp_ne (tgt := 136) hx hb d_MO_make_128 (by decide) (fun c45 => ?_) (fun c45 => ?_)
              · have hq := hq.2 c45
                refine lv_iconst (v := (-1)) hx hb d_MO_make_136 (by decide) ?_
                refine cw_iast hx hb hK hP hi hS 4 (by decide) rfl 0 rfl hq.1 mpa_3 d_MO_make_137 (fun H locs hP hS => ?_)
                have hq := hq.2
                obtain ⟨s46, e_s46⟩ : ∃ z, z = sA s41 3 (upd (gA s41 3) ((gI s41 0).toNatClampNeg) (-1)) := ⟨_, rfl⟩
                rw [← e_s46] at hP
                have hq := hq s46 e_s46
                refine lv_aload_n hx hb d_MO_make_138 rfl (lv_at hl 2 rfl) ?_
                refine lv_dup hx hb d_MO_make_139 rfl ?_
                refine cw_get (C := R_MO) (T := F_MO) (N := 39) (v := .int (gI s46 0)) hx hb hts (in_MO _) hown hK hP 0 (by decide) rfl rfl 9 (by decide) (ht _ wC_691) rfl d_MO_make_140 ?_
                refine lv_iconst (v := 1) hx hb d_MO_make_143 (by decide) ?_
                refine lv_iadd hx hb d_MO_make_144 ?_
                refine cw_put (C := R_MO) (T := F_MO) (N := 39) (ty := .int) (v := .int ((gI s46 0) + 1)) hx hb hts (in_MO _) t_MO tok_MO n_MO hown hK hP hi hS 0 (by decide) rfl rfl 9 (by decide) (ht _ wC_691) rfl (by decide +kernel) rfl rfl (Nat.le_of_ble_eq_true rfl) up_MO_many d_MO_make_145 (fun H locs hP hS => ?_)
                obtain ⟨s47, e_s47⟩ : ∃ z, z = sI s46 0 ((gI s46 0) + 1) := ⟨_, rfl⟩
                rw [← e_s47] at hP
                have hq := hq s47 e_s47
                refine lv_aload_n hx hb d_MO_make_148 rfl (lv_at hl 2 rfl) ?_
                refine cw_get (C := R_MO) (T := F_MO) (N := 39) (v := .int (gI s47 0)) hx hb hts (in_MO _) hown hK hP 0 (by decide) rfl rfl 9 (by decide) (ht _ wC_691) rfl d_MO_make_149 ?_
                refine lv_iconst (v := 1) hx hb d_MO_make_152 (by decide) ?_
                refine lv_isub hx hb d_MO_make_153 ?_
                exact W.iret hx hb hr (fun t ht hW => ⟨⟨((gI s47 0) - 1), s47, rfl, hq, by rw [ht]; exact hP, va_K.moved hW.alike hK, hN.warm hW⟩, hS.F ht⟩) hS.2.2 d_MO_make_154
              · have hq := hq.1 c45
                refine lv_iload hx hb d_MO_make_131 (lv_at hl 6 rfl) ?_
                refine lv_goto (tgt := 137) hx hb d_MO_make_133 (by decide) ?_
                refine cw_iast hx hb hK hP hi hS 4 (by decide) rfl 0 rfl hq.1 mpa_3 d_MO_make_137 (fun H locs hP hS => ?_)
                have hq := hq.2
                obtain ⟨s48, e_s48⟩ : ∃ z, z = sA s41 3 (upd (gA s41 3) ((gI s41 0).toNatClampNeg) p4) := ⟨_, rfl⟩
                rw [← e_s48] at hP
                have hq := hq s48 e_s48
                refine lv_aload_n hx hb d_MO_make_138 rfl (lv_at hl 2 rfl) ?_
                refine lv_dup hx hb d_MO_make_139 rfl ?_
                refine cw_get (C := R_MO) (T := F_MO) (N := 39) (v := .int (gI s48 0)) hx hb hts (in_MO _) hown hK hP 0 (by decide) rfl rfl 9 (by decide) (ht _ wC_691) rfl d_MO_make_140 ?_
                refine lv_iconst (v := 1) hx hb d_MO_make_143 (by decide) ?_
                refine lv_iadd hx hb d_MO_make_144 ?_
                refine cw_put (C := R_MO) (T := F_MO) (N := 39) (ty := .int) (v := .int ((gI s48 0) + 1)) hx hb hts (in_MO _) t_MO tok_MO n_MO hown hK hP hi hS 0 (by decide) rfl rfl 9 (by decide) (ht _ wC_691) rfl (by decide +kernel) rfl rfl (Nat.le_of_ble_eq_true rfl) up_MO_many d_MO_make_145 (fun H locs hP hS => ?_)
                obtain ⟨s49, e_s49⟩ : ∃ z, z = sI s48 0 ((gI s48 0) + 1) := ⟨_, rfl⟩
                rw [← e_s49] at hP
                have hq := hq s49 e_s49
                refine lv_aload_n hx hb d_MO_make_148 rfl (lv_at hl 2 rfl) ?_
                refine cw_get (C := R_MO) (T := F_MO) (N := 39) (v := .int (gI s49 0)) hx hb hts (in_MO _) hown hK hP 0 (by decide) rfl rfl 9 (by decide) (ht _ wC_691) rfl d_MO_make_149 ?_
                refine lv_iconst (v := 1) hx hb d_MO_make_152 (by decide) ?_
                refine lv_isub hx hb d_MO_make_153 ?_
                exact W.iret hx hb hr (fun t ht hW => ⟨⟨((gI s49 0) - 1), s49, rfl, hq, by rw [ht]; exact hP, va_K.moved hW.alike hK, hN.warm hW⟩, hS.F ht⟩) hS.2.2 d_MO_make_154
        · have hq := hq.2 c28
          refine lv_iload_n hx hb d_MO_make_53 rfl (lv_at hl 2 rfl) ?_
          refine lv_bipush (v := 11) hx hb d_MO_make_54 (by decide) ?_
          refine lv_icmp_eq (tgt := 65) hx hb d_MO_make_56 (by decide) (fun c50 => ?_) (fun c50 => ?_)
          · have hq := hq.1 c50
            refine lv_iconst (v := 1) hx hb d_MO_make_65 (by decide) ?_
            refine lv_goto (tgt := 70) hx hb d_MO_make_66 (by decide) ?_
            refine lv_istore (lv' := [(6, .int 1), (5, .int r1), (0, .ref (am 0)), (1, .int p1), (2, .int p2), (3, .int p3), (4, .int p4)]) hx hb d_MO_make_70 hl (by decide) rfl (fun ls hl => ?_)
            refine lv_aload_n hx hb d_MO_make_72 rfl (lv_at hl 2 rfl) ?_
            refine cw_get (C := R_MO) (T := F_MO) (N := 39) (v := .ref (am 1)) hx hb hts (in_MO _) hown hK hP 0 (by decide) rfl rfl 0 (by decide) (ht _ wC_682) rfl d_MO_make_73 ?_
            refine lv_aload_n hx hb d_MO_make_76 rfl (lv_at hl 2 rfl) ?_
            refine cw_get (C := R_MO) (T := F_MO) (N := 39) (v := .int (gI s5 0)) hx hb hts (in_MO _) hown hK hP 0 (by decide) rfl rfl 9 (by decide) (ht _ wC_691) rfl d_MO_make_77 ?_
            refine lv_iload_n hx hb d_MO_make_80 rfl (lv_at hl 3 rfl) ?_
            refine cw_iast hx hb hK hP hi hS 1 (by decide) rfl 0 rfl hq.1 mpa_0 d_MO_make_81 (fun H locs hP hS => ?_)
            have hq := hq.2
            obtain ⟨s51, e_s51⟩ : ∃ z, z = sA s5 0 (upd (gA s5 0) ((gI s5 0).toNatClampNeg) p1) := ⟨_, rfl⟩
            rw [← e_s51] at hP
            have hq := hq s51 e_s51
            refine lv_aload_n hx hb d_MO_make_82 rfl (lv_at hl 2 rfl) ?_
            refine cw_get (C := R_MO) (T := F_MO) (N := 39) (v := .ref (am 2)) hx hb hts (in_MO _) hown hK hP 0 (by decide) rfl rfl 1 (by decide) (ht _ wC_683) rfl d_MO_make_83 ?_
            refine lv_aload_n hx hb d_MO_make_86 rfl (lv_at hl 2 rfl) ?_
            refine cw_get (C := R_MO) (T := F_MO) (N := 39) (v := .int (gI s51 0)) hx hb hts (in_MO _) hown hK hP 0 (by decide) rfl rfl 9 (by decide) (ht _ wC_691) rfl d_MO_make_87 ?_
            refine lv_iload_n hx hb d_MO_make_90 rfl (lv_at hl 4 rfl) ?_
            refine cw_iast hx hb hK hP hi hS 2 (by decide) rfl 0 rfl hq.1 mpa_1 d_MO_make_91 (fun H locs hP hS => ?_)
            have hq := hq.2
            obtain ⟨s52, e_s52⟩ : ∃ z, z = sA s51 1 (upd (gA s51 1) ((gI s51 0).toNatClampNeg) p2) := ⟨_, rfl⟩
            rw [← e_s52] at hP
            have hq := hq s52 e_s52
            refine lv_aload_n hx hb d_MO_make_92 rfl (lv_at hl 2 rfl) ?_
            refine cw_get (C := R_MO) (T := F_MO) (N := 39) (v := .ref (am 3)) hx hb hts (in_MO _) hown hK hP 0 (by decide) rfl rfl 2 (by decide) (ht _ wC_684) rfl d_MO_make_93 ?_
            refine lv_aload_n hx hb d_MO_make_96 rfl (lv_at hl 2 rfl) ?_
            refine cw_get (C := R_MO) (T := F_MO) (N := 39) (v := .int (gI s52 0)) hx hb hts (in_MO _) hown hK hP 0 (by decide) rfl rfl 9 (by decide) (ht _ wC_691) rfl d_MO_make_97 ?_
            refine lv_iload hx hb d_MO_make_100 (lv_at hl 0 rfl) ?_
            refine lv_if_eq (tgt := 109) hx hb d_MO_make_102 (by decide) (fun c53 => ?_) (fun c53 => ?_)
            · have hq := hq.1 c53
              refine lv_iload_n hx hb d_MO_make_109 rfl (lv_at hl 5 rfl) ?_
              refine cw_iast hx hb hK hP hi hS 3 (by decide) rfl 0 rfl hq.1 mpa_2 d_MO_make_110 (fun H locs hP hS => ?_)
              have hq := hq.2
              obtain ⟨s54, e_s54⟩ : ∃ z, z = sA s52 2 (upd (gA s52 2) ((gI s52 0).toNatClampNeg) p3) := ⟨_, rfl⟩
              rw [← e_s54] at hP
              have hq := hq s54 e_s54
              refine lv_aload_n hx hb d_MO_make_111 rfl (lv_at hl 2 rfl) ?_
              refine cw_get (C := R_MO) (T := F_MO) (N := 39) (v := .ref (am 4)) hx hb hts (in_MO _) hown hK hP 0 (by decide) rfl rfl 3 (by decide) (ht _ wC_685) rfl d_MO_make_112 ?_
              refine lv_aload_n hx hb d_MO_make_115 rfl (lv_at hl 2 rfl) ?_
              refine cw_get (C := R_MO) (T := F_MO) (N := 39) (v := .int (gI s54 0)) hx hb hts (in_MO _) hown hK hP 0 (by decide) rfl rfl 9 (by decide) (ht _ wC_691) rfl d_MO_make_116 ?_
              refine lv_iload_n hx hb d_MO_make_119 rfl (lv_at hl 3 rfl) ?_
              refine lv_bipush (v := 9) hx hb d_MO_make_120 (by decide) ?_
              refine lv_icmp_eq (tgt := 131) hx hb d_MO_make_122 (by decide) (fun c55 => ?_) (fun c55 => ?_)
              · have hq := hq.1 c55
                refine lv_iload hx hb d_MO_make_131 (lv_at hl 6 rfl) ?_
                refine lv_goto (tgt := 137) hx hb d_MO_make_133 (by decide) ?_
                refine cw_iast hx hb hK hP hi hS 4 (by decide) rfl 0 rfl hq.1 mpa_3 d_MO_make_137 (fun H locs hP hS => ?_)
                have hq := hq.2
                obtain ⟨s56, e_s56⟩ : ∃ z, z = sA s54 3 (upd (gA s54 3) ((gI s54 0).toNatClampNeg) p4) := ⟨_, rfl⟩
                rw [← e_s56] at hP
                have hq := hq s56 e_s56
                refine lv_aload_n hx hb d_MO_make_138 rfl (lv_at hl 2 rfl) ?_
                refine lv_dup hx hb d_MO_make_139 rfl ?_
                refine cw_get (C := R_MO) (T := F_MO) (N := 39) (v := .int (gI s56 0)) hx hb hts (in_MO _) hown hK hP 0 (by decide) rfl rfl 9 (by decide) (ht _ wC_691) rfl d_MO_make_140 ?_
                refine lv_iconst (v := 1) hx hb d_MO_make_143 (by decide) ?_
                refine lv_iadd hx hb d_MO_make_144 ?_
                refine cw_put (C := R_MO) (T := F_MO) (N := 39) (ty := .int) (v := .int ((gI s56 0) + 1)) hx hb hts (in_MO _) t_MO tok_MO n_MO hown hK hP hi hS 0 (by decide) rfl rfl 9 (by decide) (ht _ wC_691) rfl (by decide +kernel) rfl rfl (Nat.le_of_ble_eq_true rfl) up_MO_many d_MO_make_145 (fun H locs hP hS => ?_)
                obtain ⟨s57, e_s57⟩ : ∃ z, z = sI s56 0 ((gI s56 0) + 1) := ⟨_, rfl⟩
                rw [← e_s57] at hP
                have hq := hq s57 e_s57
                refine lv_aload_n hx hb d_MO_make_148 rfl (lv_at hl 2 rfl) ?_
                refine cw_get (C := R_MO) (T := F_MO) (N := 39) (v := .int (gI s57 0)) hx hb hts (in_MO _) hown hK hP 0 (by decide) rfl rfl 9 (by decide) (ht _ wC_691) rfl d_MO_make_149 ?_
                refine lv_iconst (v := 1) hx hb d_MO_make_152 (by decide) ?_
                refine lv_isub hx hb d_MO_make_153 ?_
                exact W.iret hx hb hr (fun t ht hW => ⟨⟨((gI s57 0) - 1), s57, rfl, hq, by rw [ht]; exact hP, va_K.moved hW.alike hK, hN.warm hW⟩, hS.F ht⟩) hS.2.2 d_MO_make_154
              · have hq := hq.2 c55
                refine lv_iload_n hx hb d_MO_make_125 rfl (lv_at hl 3 rfl) ?_
                refine lv_bipush (v := 12) hx hb d_MO_make_126 (by decide) ?_
                refine lv_icmp_ne (tgt := 136) hx hb d_MO_make_128 (by decide) (fun c58 => ?_) (fun c58 => ?_)
                · have hq := hq.2 c58
                  refine lv_iconst (v := (-1)) hx hb d_MO_make_136 (by decide) ?_
                  refine cw_iast hx hb hK hP hi hS 4 (by decide) rfl 0 rfl hq.1 mpa_3 d_MO_make_137 (fun H locs hP hS => ?_)
                  have hq := hq.2
                  obtain ⟨s59, e_s59⟩ : ∃ z, z = sA s54 3 (upd (gA s54 3) ((gI s54 0).toNatClampNeg) (-1)) := ⟨_, rfl⟩
                  rw [← e_s59] at hP
                  have hq := hq s59 e_s59
                  refine lv_aload_n hx hb d_MO_make_138 rfl (lv_at hl 2 rfl) ?_
                  refine lv_dup hx hb d_MO_make_139 rfl ?_
                  refine cw_get (C := R_MO) (T := F_MO) (N := 39) (v := .int (gI s59 0)) hx hb hts (in_MO _) hown hK hP 0 (by decide) rfl rfl 9 (by decide) (ht _ wC_691) rfl d_MO_make_140 ?_
                  refine lv_iconst (v := 1) hx hb d_MO_make_143 (by decide) ?_
                  refine lv_iadd hx hb d_MO_make_144 ?_
                  refine cw_put (C := R_MO) (T := F_MO) (N := 39) (ty := .int) (v := .int ((gI s59 0) + 1)) hx hb hts (in_MO _) t_MO tok_MO n_MO hown hK hP hi hS 0 (by decide) rfl rfl 9 (by decide) (ht _ wC_691) rfl (by decide +kernel) rfl rfl (Nat.le_of_ble_eq_true rfl) up_MO_many d_MO_make_145 (fun H locs hP hS => ?_)
                  obtain ⟨s60, e_s60⟩ : ∃ z, z = sI s59 0 ((gI s59 0) + 1) := ⟨_, rfl⟩
                  rw [← e_s60] at hP
                  have hq := hq s60 e_s60
                  refine lv_aload_n hx hb d_MO_make_148 rfl (lv_at hl 2 rfl) ?_
                  refine cw_get (C := R_MO) (T := F_MO) (N := 39) (v := .int (gI s60 0)) hx hb hts (in_MO _) hown hK hP 0 (by decide) rfl rfl 9 (by decide) (ht _ wC_691) rfl d_MO_make_149 ?_
                  refine lv_iconst (v := 1) hx hb d_MO_make_152 (by decide) ?_
                  refine lv_isub hx hb d_MO_make_153 ?_
                  exact W.iret hx hb hr (fun t ht hW => ⟨⟨((gI s60 0) - 1), s60, rfl, hq, by rw [ht]; exact hP, va_K.moved hW.alike hK, hN.warm hW⟩, hS.F ht⟩) hS.2.2 d_MO_make_154
                · have hq := hq.1 c58
                  refine lv_iload hx hb d_MO_make_131 (lv_at hl 6 rfl) ?_
                  refine lv_goto (tgt := 137) hx hb d_MO_make_133 (by decide) ?_
                  refine cw_iast hx hb hK hP hi hS 4 (by decide) rfl 0 rfl hq.1 mpa_3 d_MO_make_137 (fun H locs hP hS => ?_)
                  have hq := hq.2
                  obtain ⟨s61, e_s61⟩ : ∃ z, z = sA s54 3 (upd (gA s54 3) ((gI s54 0).toNatClampNeg) p4) := ⟨_, rfl⟩
                  rw [← e_s61] at hP
                  have hq := hq s61 e_s61
                  refine lv_aload_n hx hb d_MO_make_138 rfl (lv_at hl 2 rfl) ?_
                  refine lv_dup hx hb d_MO_make_139 rfl ?_
                  refine cw_get (C := R_MO) (T := F_MO) (N := 39) (v := .int (gI s61 0)) hx hb hts (in_MO _) hown hK hP 0 (by decide) rfl rfl 9 (by decide) (ht _ wC_691) rfl d_MO_make_140 ?_
                  refine lv_iconst (v := 1) hx hb d_MO_make_143 (by decide) ?_
                  refine lv_iadd hx hb d_MO_make_144 ?_
                  refine cw_put (C := R_MO) (T := F_MO) (N := 39) (ty := .int) (v := .int ((gI s61 0) + 1)) hx hb hts (in_MO _) t_MO tok_MO n_MO hown hK hP hi hS 0 (by decide) rfl rfl 9 (by decide) (ht _ wC_691) rfl (by decide +kernel) rfl rfl (Nat.le_of_ble_eq_true rfl) up_MO_many d_MO_make_145 (fun H locs hP hS => ?_)
                  obtain ⟨s62, e_s62⟩ : ∃ z, z = sI s61 0 ((gI s61 0) + 1) := ⟨_, rfl⟩
                  rw [← e_s62] at hP
                  have hq := hq s62 e_s62
                  refine lv_aload_n hx hb d_MO_make_148 rfl (lv_at hl 2 rfl) ?_
                  refine cw_get (C := R_MO) (T := F_MO) (N := 39) (v := .int (gI s62 0)) hx hb hts (in_MO _) hown hK hP 0 (by decide) rfl rfl 9 (by decide) (ht _ wC_691) rfl d_MO_make_149 ?_
                  refine lv_iconst (v := 1) hx hb d_MO_make_152 (by decide) ?_
                  refine lv_isub hx hb d_MO_make_153 ?_
                  exact W.iret hx hb hr (fun t ht hW => ⟨⟨((gI s62 0) - 1), s62, rfl, hq, by rw [ht]; exact hP, va_K.moved hW.alike hK, hN.warm hW⟩, hS.F ht⟩) hS.2.2 d_MO_make_154
            · have hq := hq.2 c53
              refine lv_iconst (v := (-1)) hx hb d_MO_make_105 (by decide) ?_
              refine lv_goto (tgt := 110) hx hb d_MO_make_106 (by decide) ?_
              refine cw_iast hx hb hK hP hi hS 3 (by decide) rfl 0 rfl hq.1 mpa_2 d_MO_make_110 (fun H locs hP hS => ?_)
              have hq := hq.2
              obtain ⟨s63, e_s63⟩ : ∃ z, z = sA s52 2 (upd (gA s52 2) ((gI s52 0).toNatClampNeg) (-1)) := ⟨_, rfl⟩
              rw [← e_s63] at hP
              have hq := hq s63 e_s63
              refine lv_aload_n hx hb d_MO_make_111 rfl (lv_at hl 2 rfl) ?_
              refine cw_get (C := R_MO) (T := F_MO) (N := 39) (v := .ref (am 4)) hx hb hts (in_MO _) hown hK hP 0 (by decide) rfl rfl 3 (by decide) (ht _ wC_685) rfl d_MO_make_112 ?_
              refine lv_aload_n hx hb d_MO_make_115 rfl (lv_at hl 2 rfl) ?_
              refine cw_get (C := R_MO) (T := F_MO) (N := 39) (v := .int (gI s63 0)) hx hb hts (in_MO _) hown hK hP 0 (by decide) rfl rfl 9 (by decide) (ht _ wC_691) rfl d_MO_make_116 ?_
              refine lv_iload_n hx hb d_MO_make_119 rfl (lv_at hl 3 rfl) ?_
              refine lv_bipush (v := 9) hx hb d_MO_make_120 (by decide) ?_
              refine lv_icmp_eq (tgt := 131) hx hb d_MO_make_122 (by decide) (fun c64 => ?_) (fun c64 => ?_)
              · have hq := hq.1 c64
                refine lv_iload hx hb d_MO_make_131 (lv_at hl 6 rfl) ?_
                refine lv_goto (tgt := 137) hx hb d_MO_make_133 (by decide) ?_
                refine cw_iast hx hb hK hP hi hS 4 (by decide) rfl 0 rfl hq.1 mpa_3 d_MO_make_137 (fun H locs hP hS => ?_)
                have hq := hq.2
                obtain ⟨s65, e_s65⟩ : ∃ z, z = sA s63 3 (upd (gA s63 3) ((gI s63 0).toNatClampNeg) p4) := ⟨_, rfl⟩
                rw [← e_s65] at hP
                have hq := hq s65 e_s65
                refine lv_aload_n hx hb d_MO_make_138 rfl (lv_at hl 2 rfl) ?_
                refine lv_dup hx hb d_MO_make_139 rfl ?_
                refine cw_get (C := R_MO) (T := F_MO) (N := 39) (v := .int (gI s65 0)) hx hb hts (in_MO _) hown hK hP 0 (by decide) rfl rfl 9 (by decide) (ht _ wC_691) rfl d_MO_make_140 ?_
                refine lv_iconst (v := 1) hx hb d_MO_make_143 (by decide) ?_
                refine lv_iadd hx hb d_MO_make_144 ?_
                refine cw_put (C := R_MO) (T := F_MO) (N := 39) (ty := .int) (v := .int ((gI s65 0) + 1)) hx hb hts (in_MO _) t_MO tok_MO n_MO hown hK hP hi hS 0 (by decide) rfl rfl 9 (by decide) (ht _ wC_691) rfl (by decide +kernel) rfl rfl (Nat.le_of_ble_eq_true rfl) up_MO_many d_MO_make_145 (fun H locs hP hS => ?_)
                obtain ⟨s66, e_s66⟩ : ∃ z, z = sI s65 0 ((gI s65 0) + 1) := ⟨_, rfl⟩
                rw [← e_s66] at hP
                have hq := hq s66 e_s66
                refine lv_aload_n hx hb d_MO_make_148 rfl (lv_at hl 2 rfl) ?_
                refine cw_get (C := R_MO) (T := F_MO) (N := 39) (v := .int (gI s66 0)) hx hb hts (in_MO _) hown hK hP 0 (by decide) rfl rfl 9 (by decide) (ht _ wC_691) rfl d_MO_make_149 ?_
                refine lv_iconst (v := 1) hx hb d_MO_make_152 (by decide) ?_
                refine lv_isub hx hb d_MO_make_153 ?_
                exact W.iret hx hb hr (fun t ht hW => ⟨⟨((gI s66 0) - 1), s66, rfl, hq, by rw [ht]; exact hP, va_K.moved hW.alike hK, hN.warm hW⟩, hS.F ht⟩) hS.2.2 d_MO_make_154
              · have hq := hq.2 c64
                refine lv_iload_n hx hb d_MO_make_125 rfl (lv_at hl 3 rfl) ?_
                refine lv_bipush (v := 12) hx hb d_MO_make_126 (by decide) ?_
                refine lv_icmp_ne (tgt := 136) hx hb d_MO_make_128 (by decide) (fun c67 => ?_) (fun c67 => ?_)
                · have hq := hq.2 c67
                  refine lv_iconst (v := (-1)) hx hb d_MO_make_136 (by decide) ?_
                  refine cw_iast hx hb hK hP hi hS 4 (by decide) rfl 0 rfl hq.1 mpa_3 d_MO_make_137 (fun H locs hP hS => ?_)
                  have hq := hq.2
                  obtain ⟨s68, e_s68⟩ : ∃ z, z = sA s63 3 (upd (gA s63 3) ((gI s63 0).toNatClampNeg) (-1)) := ⟨_, rfl⟩
                  rw [← e_s68] at hP
                  have hq := hq s68 e_s68
                  refine lv_aload_n hx hb d_MO_make_138 rfl (lv_at hl 2 rfl) ?_
                  refine lv_dup hx hb d_MO_make_139 rfl ?_
                  refine cw_get (C := R_MO) (T := F_MO) (N := 39) (v := .int (gI s68 0)) hx hb hts (in_MO _) hown hK hP 0 (by decide) rfl rfl 9 (by decide) (ht _ wC_691) rfl d_MO_make_140 ?_
                  refine lv_iconst (v := 1) hx hb d_MO_make_143 (by decide) ?_
                  refine lv_iadd hx hb d_MO_make_144 ?_
                  refine cw_put (C := R_MO) (T := F_MO) (N := 39) (ty := .int) (v := .int ((gI s68 0) + 1)) hx hb hts (in_MO _) t_MO tok_MO n_MO hown hK hP hi hS 0 (by decide) rfl rfl 9 (by decide) (ht _ wC_691) rfl (by decide +kernel) rfl rfl (Nat.le_of_ble_eq_true rfl) up_MO_many d_MO_make_145 (fun H locs hP hS => ?_)
                  obtain ⟨s69, e_s69⟩ : ∃ z, z = sI s68 0 ((gI s68 0) + 1) := ⟨_, rfl⟩
                  rw [← e_s69] at hP
                  have hq := hq s69 e_s69
                  refine lv_aload_n hx hb d_MO_make_148 rfl (lv_at hl 2 rfl) ?_
                  refine cw_get (C := R_MO) (T := F_MO) (N := 39) (v := .int (gI s69 0)) hx hb hts (in_MO _) hown hK hP 0 (by decide) rfl rfl 9 (by decide) (ht _ wC_691) rfl d_MO_make_149 ?_
                  refine lv_iconst (v := 1) hx hb d_MO_make_152 (by decide) ?_
                  refine lv_isub hx hb d_MO_make_153 ?_
                  exact W.iret hx hb hr (fun t ht hW => ⟨⟨((gI s69 0) - 1), s69, rfl, hq, by rw [ht]; exact hP, va_K.moved hW.alike hK, hN.warm hW⟩, hS.F ht⟩) hS.2.2 d_MO_make_154
                · have hq := hq.1 c67
                  refine lv_iload hx hb d_MO_make_131 (lv_at hl 6 rfl) ?_
                  refine lv_goto (tgt := 137) hx hb d_MO_make_133 (by decide) ?_
                  refine cw_iast hx hb hK hP hi hS 4 (by decide) rfl 0 rfl hq.1 mpa_3 d_MO_make_137 (fun H locs hP hS => ?_)
                  have hq := hq.2
                  obtain ⟨s70, e_s70⟩ : ∃ z, z = sA s63 3 (upd (gA s63 3) ((gI s63 0).toNatClampNeg) p4) := ⟨_, rfl⟩
                  rw [← e_s70] at hP
                  have hq := hq s70 e_s70
                  refine lv_aload_n hx hb d_MO_make_138 rfl (lv_at hl 2 rfl) ?_
                  refine lv_dup hx hb d_MO_make_139 rfl ?_
                  refine cw_get (C := R_MO) (T := F_MO) (N := 39) (v := .int (gI s70 0)) hx hb hts (in_MO _) hown hK hP 0 (by decide) rfl rfl 9 (by decide) (ht _ wC_691) rfl d_MO_make_140 ?_
                  refine lv_iconst (v := 1) hx hb d_MO_make_143 (by decide) ?_
                  refine lv_iadd hx hb d_MO_make_144 ?_
                  refine cw_put (C := R_MO) (T := F_MO) (N := 39) (ty := .int) (v := .int ((gI s70 0) + 1)) hx hb hts (in_MO _) t_MO tok_MO n_MO hown hK hP hi hS 0 (by decide) rfl rfl 9 (by decide) (ht _ wC_691) rfl (by decide +kernel) rfl rfl (Nat.le_of_ble_eq_true rfl) up_MO_many d_MO_make_145 (fun H locs hP hS => ?_)
                  obtain ⟨s71, e_s71⟩ : ∃ z, z = sI s70 0 ((gI s70 0) + 1) := ⟨_, rfl⟩
                  rw [← e_s71] at hP
                  have hq := hq s71 e_s71
                  refine lv_aload_n hx hb d_MO_make_148 rfl (lv_at hl 2 rfl) ?_
                  refine cw_get (C := R_MO) (T := F_MO) (N := 39) (v := .int (gI s71 0)) hx hb hts (in_MO _) hown hK hP 0 (by decide) rfl rfl 9 (by decide) (ht _ wC_691) rfl d_MO_make_149 ?_
                  refine lv_iconst (v := 1) hx hb d_MO_make_152 (by decide) ?_
                  refine lv_isub hx hb d_MO_make_153 ?_
                  exact W.iret hx hb hr (fun t ht hW => ⟨⟨((gI s71 0) - 1), s71, rfl, hq, by rw [ht]; exact hP, va_K.moved hW.alike hK, hN.warm hW⟩, hS.F ht⟩) hS.2.2 d_MO_make_154
          · have hq := hq.2 c50
            refine lv_iload_n hx hb d_MO_make_59 rfl (lv_at hl 2 rfl) ?_
            refine lv_bipush (v := 16) hx hb d_MO_make_60 (by decide) ?_
            refine lv_icmp_ne (tgt := 69) hx hb d_MO_make_62 (by decide) (fun c72 => ?_) (fun c72 => ?_)
            · have hq := hq.2 c72
              refine lv_iconst (v := 0) hx hb d_MO_make_69 (by decide) ?_
              refine lv_istore (lv' := [(6, .int 0), (5, .int r1), (0, .ref (am 0)), (1, .int p1), (2, .int p2), (3, .int p3), (4, .int p4)]) hx hb d_MO_make_70 hl (by decide) rfl (fun ls hl => ?_)
              refine lv_aload_n hx hb d_MO_make_72 rfl (lv_at hl 2 rfl) ?_
              refine cw_get (C := R_MO) (T := F_MO) (N := 39) (v := .ref (am 1)) hx hb hts (in_MO _) hown hK hP 0 (by decide) rfl rfl 0 (by decide) (ht _ wC_682) rfl d_MO_make_73 ?_
              refine lv_aload_n hx hb d_MO_make_76 rfl (lv_at hl 2 rfl) ?_
              refine cw_get (C := R_MO) (T := F_MO) (N := 39) (v := .int (gI s5 0)) hx hb hts (in_MO _) hown hK hP 0 (by decide) rfl rfl 9 (by decide) (ht _ wC_691) rfl d_MO_make_77 ?_
              refine lv_iload_n hx hb d_MO_make_80 rfl (lv_at hl 3 rfl) ?_
              refine cw_iast hx hb hK hP hi hS 1 (by decide) rfl 0 rfl hq.1 mpa_0 d_MO_make_81 (fun H locs hP hS => ?_)
              have hq := hq.2
              obtain ⟨s73, e_s73⟩ : ∃ z, z = sA s5 0 (upd (gA s5 0) ((gI s5 0).toNatClampNeg) p1) := ⟨_, rfl⟩
              rw [← e_s73] at hP
              have hq := hq s73 e_s73
              refine lv_aload_n hx hb d_MO_make_82 rfl (lv_at hl 2 rfl) ?_
              refine cw_get (C := R_MO) (T := F_MO) (N := 39) (v := .ref (am 2)) hx hb hts (in_MO _) hown hK hP 0 (by decide) rfl rfl 1 (by decide) (ht _ wC_683) rfl d_MO_make_83 ?_
              refine lv_aload_n hx hb d_MO_make_86 rfl (lv_at hl 2 rfl) ?_
              refine cw_get (C := R_MO) (T := F_MO) (N := 39) (v := .int (gI s73 0)) hx hb hts (in_MO _) hown hK hP 0 (by decide) rfl rfl 9 (by decide) (ht _ wC_691) rfl d_MO_make_87 ?_
              refine lv_iload_n hx hb d_MO_make_90 rfl (lv_at hl 4 rfl) ?_
              refine cw_iast hx hb hK hP hi hS 2 (by decide) rfl 0 rfl hq.1 mpa_1 d_MO_make_91 (fun H locs hP hS => ?_)
              have hq := hq.2
              obtain ⟨s74, e_s74⟩ : ∃ z, z = sA s73 1 (upd (gA s73 1) ((gI s73 0).toNatClampNeg) p2) := ⟨_, rfl⟩
              rw [← e_s74] at hP
              have hq := hq s74 e_s74
              refine lv_aload_n hx hb d_MO_make_92 rfl (lv_at hl 2 rfl) ?_
              refine cw_get (C := R_MO) (T := F_MO) (N := 39) (v := .ref (am 3)) hx hb hts (in_MO _) hown hK hP 0 (by decide) rfl rfl 2 (by decide) (ht _ wC_684) rfl d_MO_make_93 ?_
              refine lv_aload_n hx hb d_MO_make_96 rfl (lv_at hl 2 rfl) ?_
              refine cw_get (C := R_MO) (T := F_MO) (N := 39) (v := .int (gI s74 0)) hx hb hts (in_MO _) hown hK hP 0 (by decide) rfl rfl 9 (by decide) (ht _ wC_691) rfl d_MO_make_97 ?_
              refine lv_iload hx hb d_MO_make_100 (lv_at hl 0 rfl) ?_
              refine lv_if_eq (tgt := 109) hx hb d_MO_make_102 (by decide) (fun c75 => ?_) (fun c75 => ?_)
              · have hq := hq.1 c75
                refine lv_iload_n hx hb d_MO_make_109 rfl (lv_at hl 5 rfl) ?_
                refine cw_iast hx hb hK hP hi hS 3 (by decide) rfl 0 rfl hq.1 mpa_2 d_MO_make_110 (fun H locs hP hS => ?_)
                have hq := hq.2
                obtain ⟨s76, e_s76⟩ : ∃ z, z = sA s74 2 (upd (gA s74 2) ((gI s74 0).toNatClampNeg) p3) := ⟨_, rfl⟩
                rw [← e_s76] at hP
                have hq := hq s76 e_s76
                refine lv_aload_n hx hb d_MO_make_111 rfl (lv_at hl 2 rfl) ?_
                refine cw_get (C := R_MO) (T := F_MO) (N := 39) (v := .ref (am 4)) hx hb hts (in_MO _) hown hK hP 0 (by decide) rfl rfl 3 (by decide) (ht _ wC_685) rfl d_MO_make_112 ?_
                refine lv_aload_n hx hb d_MO_make_115 rfl (lv_at hl 2 rfl) ?_
                refine cw_get (C := R_MO) (T := F_MO) (N := 39) (v := .int (gI s76 0)) hx hb hts (in_MO _) hown hK hP 0 (by decide) rfl rfl 9 (by decide) (ht _ wC_691) rfl d_MO_make_116 ?_
                refine lv_iload_n hx hb d_MO_make_119 rfl (lv_at hl 3 rfl) ?_
                refine lv_bipush (v := 9) hx hb d_MO_make_120 (by decide) ?_
                refine lv_icmp_eq (tgt := 131) hx hb d_MO_make_122 (by decide) (fun c77 => ?_) (fun c77 => ?_)
                · have hq := hq.1 c77
                  refine lv_iload hx hb d_MO_make_131 (lv_at hl 6 rfl) ?_
                  refine lv_goto (tgt := 137) hx hb d_MO_make_133 (by decide) ?_
                  refine cw_iast hx hb hK hP hi hS 4 (by decide) rfl 0 rfl hq.1 mpa_3 d_MO_make_137 (fun H locs hP hS => ?_)
                  have hq := hq.2
                  obtain ⟨s78, e_s78⟩ : ∃ z, z = sA s76 3 (upd (gA s76 3) ((gI s76 0).toNatClampNeg) p4) := ⟨_, rfl⟩
                  rw [← e_s78] at hP
                  have hq := hq s78 e_s78
                  refine lv_aload_n hx hb d_MO_make_138 rfl (lv_at hl 2 rfl) ?_
                  refine lv_dup hx hb d_MO_make_139 rfl ?_
                  refine cw_get (C := R_MO) (T := F_MO) (N := 39) (v := .int (gI s78 0)) hx hb hts (in_MO _) hown hK hP 0 (by decide) rfl rfl 9 (by decide) (ht _ wC_691) rfl d_MO_make_140 ?_
                  refine lv_iconst (v := 1) hx hb d_MO_make_143 (by decide) ?_
                  refine lv_iadd hx hb d_MO_make_144 ?_
                  refine cw_put (C := R_MO) (T := F_MO) (N := 39) (ty := .int) (v := .int ((gI s78 0) + 1)) hx hb hts (in_MO _) t_MO tok_MO n_MO hown hK hP hi hS 0 (by decide) rfl rfl 9 (by decide) (ht _ wC_691) rfl (by decide +kernel) rfl rfl (Nat.le_of_ble_eq_true rfl) up_MO_many d_MO_make_145 (fun H locs hP hS => ?_)
                  obtain ⟨s79, e_s79⟩ : ∃ z, z = sI s78 0 ((gI s78 0) + 1) := ⟨_, rfl⟩
                  rw [← e_s79] at hP
                  have hq := hq s79 e_s79
                  refine lv_aload_n hx hb d_MO_make_148 rfl (lv_at hl 2 rfl) ?_
                  refine cw_get (C := R_MO) (T := F_MO) (N := 39) (v := .int (gI s79 0)) hx hb hts (in_MO _) hown hK hP 0 (by decide) rfl rfl 9 (by decide) (ht _ wC_691) rfl d_MO_make_149 ?_
                  refine lv_iconst (v := 1) hx hb d_MO_make_152 (by decide) ?_
                  refine lv_isub hx hb d_MO_make_153 ?_
                  exact W.iret hx hb hr (fun t ht hW => ⟨⟨((gI s79 0) - 1), s79, rfl, hq, by rw [ht]; exact hP, va_K.moved hW.alike hK, hN.warm hW⟩, hS.F ht⟩) hS.2.2 d_MO_make_154
                · have hq := hq.2 c77
                  refine lv_iload_n hx hb d_MO_make_125 rfl (lv_at hl 3 rfl) ?_
                  refine lv_bipush (v := 12) hx hb d_MO_make_126 (by decide) ?_
                  refine lv_icmp_ne (tgt := 136) hx hb d_MO_make_128 (by decide) (fun c80 => ?_) (fun c80 => ?_)
                  · have hq := hq.2 c80
                    refine lv_iconst (v := (-1)) hx hb d_MO_make_136 (by decide) ?_
                    refine cw_iast hx hb hK hP hi hS 4 (by decide) rfl 0 rfl hq.1 mpa_3 d_MO_make_137 (fun H locs hP hS => ?_)
                    have hq := hq.2
                    obtain ⟨s81, e_s81⟩ : ∃ z, z = sA s76 3 (upd (gA s76 3) ((gI s76 0).toNatClampNeg) (-1)) := ⟨_, rfl⟩
                    rw [← e_s81] at hP
                    have hq := hq s81 e_s81
                    refine lv_aload_n hx hb d_MO_make_138 rfl (lv_at hl 2 rfl) ?_
                    refine lv_dup hx hb d_MO_make_139 rfl ?_
                    refine cw_get (C := R_MO) (T := F_MO) (N := 39) (v := .int (gI s81 0)) hx hb hts (in_MO _) hown hK hP 0 (by decide) rfl rfl 9 (by decide) (ht _ wC_691) rfl d_MO_make_140 ?_
                    refine lv_iconst (v := 1) hx hb d_MO_make_143 (by decide) ?_
                    refine lv_iadd hx hb d_MO_make_144 ?_
                    refine cw_put (C := R_MO) (T := F_MO) (N := 39) (ty := .int) (v := .int ((gI s81 0) + 1)) hx hb hts (in_MO _) t_MO tok_MO n_MO hown hK hP hi hS 0 (by decide) rfl rfl 9 (by decide) (ht _ wC_691) rfl (by decide +kernel) rfl rfl (Nat.le_of_ble_eq_true rfl) up_MO_many d_MO_make_145 (fun H locs hP hS => ?_)
                    obtain ⟨s82, e_s82⟩ : ∃ z, z = sI s81 0 ((gI s81 0) + 1) := ⟨_, rfl⟩
                    rw [← e_s82] at hP
                    have hq := hq s82 e_s82
                    refine lv_aload_n hx hb d_MO_make_148 rfl (lv_at hl 2 rfl) ?_
                    refine cw_get (C := R_MO) (T := F_MO) (N := 39) (v := .int (gI s82 0)) hx hb hts (in_MO _) hown hK hP 0 (by decide) rfl rfl 9 (by decide) (ht _ wC_691) rfl d_MO_make_149 ?_
                    refine lv_iconst (v := 1) hx hb d_MO_make_152 (by decide) ?_
                    refine lv_isub hx hb d_MO_make_153 ?_
                    exact W.iret hx hb hr (fun t ht hW => ⟨⟨((gI s82 0) - 1), s82, rfl, hq, by rw [ht]; exact hP, va_K.moved hW.alike hK, hN.warm hW⟩, hS.F ht⟩) hS.2.2 d_MO_make_154
                  · have hq := hq.1 c80
                    refine lv_iload hx hb d_MO_make_131 (lv_at hl 6 rfl) ?_
                    refine lv_goto (tgt := 137) hx hb d_MO_make_133 (by decide) ?_
                    refine cw_iast hx hb hK hP hi hS 4 (by decide) rfl 0 rfl hq.1 mpa_3 d_MO_make_137 (fun H locs hP hS => ?_)
                    have hq := hq.2
                    obtain ⟨s83, e_s83⟩ : ∃ z, z = sA s76 3 (upd (gA s76 3) ((gI s76 0).toNatClampNeg) p4) := ⟨_, rfl⟩
                    rw [← e_s83] at hP
                    have hq := hq s83 e_s83
                    refine lv_aload_n hx hb d_MO_make_138 rfl (lv_at hl 2 rfl) ?_
                    refine lv_dup hx hb d_MO_make_139 rfl ?_
                    refine cw_get (C := R_MO) (T := F_MO) (N := 39) (v := .int (gI s83 0)) hx hb hts (in_MO _) hown hK hP 0 (by decide) rfl rfl 9 (by decide) (ht _ wC_691) rfl d_MO_make_140 ?_
                    refine lv_iconst (v := 1) hx hb d_MO_make_143 (by decide) ?_
                    refine lv_iadd hx hb d_MO_make_144 ?_
                    refine cw_put (C := R_MO) (T := F_MO) (N := 39) (ty := .int) (v := .int ((gI s83 0) + 1)) hx hb hts (in_MO _) t_MO tok_MO n_MO hown hK hP hi hS 0 (by decide) rfl rfl 9 (by decide) (ht _ wC_691) rfl (by decide +kernel) rfl rfl (Nat.le_of_ble_eq_true rfl) up_MO_many d_MO_make_145 (fun H locs hP hS => ?_)
                    obtain ⟨s84, e_s84⟩ : ∃ z, z = sI s83 0 ((gI s83 0) + 1) := ⟨_, rfl⟩
                    rw [← e_s84] at hP
                    have hq := hq s84 e_s84
                    refine lv_aload_n hx hb d_MO_make_148 rfl (lv_at hl 2 rfl) ?_
                    refine cw_get (C := R_MO) (T := F_MO) (N := 39) (v := .int (gI s84 0)) hx hb hts (in_MO _) hown hK hP 0 (by decide) rfl rfl 9 (by decide) (ht _ wC_691) rfl d_MO_make_149 ?_
                    refine lv_iconst (v := 1) hx hb d_MO_make_152 (by decide) ?_
                    refine lv_isub hx hb d_MO_make_153 ?_
                    exact W.iret hx hb hr (fun t ht hW => ⟨⟨((gI s84 0) - 1), s84, rfl, hq, by rw [ht]; exact hP, va_K.moved hW.alike hK, hN.warm hW⟩, hS.F ht⟩) hS.2.2 d_MO_make_154
              · have hq := hq.2 c75
                refine lv_iconst (v := (-1)) hx hb d_MO_make_105 (by decide) ?_
                refine lv_goto (tgt := 110) hx hb d_MO_make_106 (by decide) ?_
                refine cw_iast hx hb hK hP hi hS 3 (by decide) rfl 0 rfl hq.1 mpa_2 d_MO_make_110 (fun H locs hP hS => ?_)
                have hq := hq.2
                obtain ⟨s85, e_s85⟩ : ∃ z, z = sA s74 2 (upd (gA s74 2) ((gI s74 0).toNatClampNeg) (-1)) := ⟨_, rfl⟩
                rw [← e_s85] at hP
                have hq := hq s85 e_s85
                refine lv_aload_n hx hb d_MO_make_111 rfl (lv_at hl 2 rfl) ?_
                refine cw_get (C := R_MO) (T := F_MO) (N := 39) (v := .ref (am 4)) hx hb hts (in_MO _) hown hK hP 0 (by decide) rfl rfl 3 (by decide) (ht _ wC_685) rfl d_MO_make_112 ?_
                refine lv_aload_n hx hb d_MO_make_115 rfl (lv_at hl 2 rfl) ?_
                refine cw_get (C := R_MO) (T := F_MO) (N := 39) (v := .int (gI s85 0)) hx hb hts (in_MO _) hown hK hP 0 (by decide) rfl rfl 9 (by decide) (ht _ wC_691) rfl d_MO_make_116 ?_
                refine lv_iload_n hx hb d_MO_make_119 rfl (lv_at hl 3 rfl) ?_
                refine lv_bipush (v := 9) hx hb d_MO_make_120 (by decide) ?_
                refine lv_icmp_eq (tgt := 131) hx hb d_MO_make_122 (by decide) (fun c86 => ?_) (fun c86 => ?_)
                · have hq := hq.1 c86
                  refine lv_iload hx hb d_MO_make_131 (lv_at hl 6 rfl) ?_
                  refine lv_goto (tgt := 137) hx hb d_MO_make_133 (by decide) ?_
                  refine cw_iast hx hb hK hP hi hS 4 (by decide) rfl 0 rfl hq.1 mpa_3 d_MO_make_137 (fun H locs hP hS => ?_)
                  have hq := hq.2
                  obtain ⟨s87, e_s87⟩ : ∃ z, z = sA s85 3 (upd (gA s85 3) ((gI s85 0).toNatClampNeg) p4) := ⟨_, rfl⟩
                  rw [← e_s87] at hP
                  have hq := hq s87 e_s87
                  refine lv_aload_n hx hb d_MO_make_138 rfl (lv_at hl 2 rfl) ?_
                  refine lv_dup hx hb d_MO_make_139 rfl ?_
                  refine cw_get (C := R_MO) (T := F_MO) (N := 39) (v := .int (gI s87 0)) hx hb hts (in_MO _) hown hK hP 0 (by decide) rfl rfl 9 (by decide) (ht _ wC_691) rfl d_MO_make_140 ?_
                  refine lv_iconst (v := 1) hx hb d_MO_make_143 (by decide) ?_
                  refine lv_iadd hx hb d_MO_make_144 ?_
                  refine cw_put (C := R_MO) (T := F_MO) (N := 39) (ty := .int) (v := .int ((gI s87 0) + 1)) hx hb hts (in_MO _) t_MO tok_MO n_MO hown hK hP hi hS 0 (by decide) rfl rfl 9 (by decide) (ht _ wC_691) rfl (by decide +kernel) rfl rfl (Nat.le_of_ble_eq_true rfl) up_MO_many d_MO_make_145 (fun H locs hP hS => ?_)
                  obtain ⟨s88, e_s88⟩ : ∃ z, z = sI s87 0 ((gI s87 0) + 1) := ⟨_, rfl⟩
                  rw [← e_s88] at hP
                  have hq := hq s88 e_s88
                  refine lv_aload_n hx hb d_MO_make_148 rfl (lv_at hl 2 rfl) ?_
                  refine cw_get (C := R_MO) (T := F_MO) (N := 39) (v := .int (gI s88 0)) hx hb hts (in_MO _) hown hK hP 0 (by decide) rfl rfl 9 (by decide) (ht _ wC_691) rfl d_MO_make_149 ?_
                  refine lv_iconst (v := 1) hx hb d_MO_make_152 (by decide) ?_
                  refine lv_isub hx hb d_MO_make_153 ?_
                  exact W.iret hx hb hr (fun t ht hW => ⟨⟨((gI s88 0) - 1), s88, rfl, hq, by rw [ht]; exact hP, va_K.moved hW.alike hK, hN.warm hW⟩, hS.F ht⟩) hS.2.2 d_MO_make_154
                · have hq := hq.2 c86
                  refine lv_iload_n hx hb d_MO_make_125 rfl (lv_at hl 3 rfl) ?_
                  refine lv_bipush (v := 12) hx hb d_MO_make_126 (by decide) ?_
                  refine lv_icmp_ne (tgt := 136) hx hb d_MO_make_128 (by decide) (fun c89 => ?_) (fun c89 => ?_)
                  · have hq := hq.2 c89
                    refine lv_iconst (v := (-1)) hx hb d_MO_make_136 (by decide) ?_
                    refine cw_iast hx hb hK hP hi hS 4 (by decide) rfl 0 rfl hq.1 mpa_3 d_MO_make_137 (fun H locs hP hS => ?_)
                    have hq := hq.2
                    obtain ⟨s90, e_s90⟩ : ∃ z, z = sA s85 3 (upd (gA s85 3) ((gI s85 0).toNatClampNeg) (-1)) := ⟨_, rfl⟩
                    rw [← e_s90] at hP
                    have hq := hq s90 e_s90
                    refine lv_aload_n hx hb d_MO_make_138 rfl (lv_at hl 2 rfl) ?_
                    refine lv_dup hx hb d_MO_make_139 rfl ?_
                    refine cw_get (C := R_MO) (T := F_MO) (N := 39) (v := .int (gI s90 0)) hx hb hts (in_MO _) hown hK hP 0 (by decide) rfl rfl 9 (by decide) (ht _ wC_691) rfl d_MO_make_140 ?_
                    refine lv_iconst (v := 1) hx hb d_MO_make_143 (by decide) ?_
                    refine lv_iadd hx hb d_MO_make_144 ?_
                    refine cw_put (C := R_MO) (T := F_MO) (N := 39) (ty := .int) (v := .int ((gI s90 0) + 1)) hx hb hts (in_MO _) t_MO tok_MO n_MO hown hK hP hi hS 0 (by decide) rfl rfl 9 (by decide) (ht _ wC_691) rfl (by decide +kernel) rfl rfl (Nat.le_of_ble_eq_true rfl) up_MO_many d_MO_make_145 (fun H locs hP hS => ?_)
                    obtain ⟨s91, e_s91⟩ : ∃ z, z = sI s90 0 ((gI s90 0) + 1) := ⟨_, rfl⟩
                    rw [← e_s91] at hP
                    have hq := hq s91 e_s91
                    refine lv_aload_n hx hb d_MO_make_148 rfl (lv_at hl 2 rfl) ?_
                    refine cw_get (C := R_MO) (T := F_MO) (N := 39) (v := .int (gI s91 0)) hx hb hts (in_MO _) hown hK hP 0 (by decide) rfl rfl 9 (by decide) (ht _ wC_691) rfl d_MO_make_149 ?_
                    refine lv_iconst (v := 1) hx hb d_MO_make_152 (by decide) ?_
                    refine lv_isub hx hb d_MO_make_153 ?_
                    exact W.iret hx hb hr (fun t ht hW => ⟨⟨((gI s91 0) - 1), s91, rfl, hq, by rw [ht]; exact hP, va_K.moved hW.alike hK, hN.warm hW⟩, hS.F ht⟩) hS.2.2 d_MO_make_154
                  · have hq := hq.1 c89
                    refine lv_iload hx hb d_MO_make_131 (lv_at hl 6 rfl) ?_
                    refine lv_goto (tgt := 137) hx hb d_MO_make_133 (by decide) ?_
                    refine cw_iast hx hb hK hP hi hS 4 (by decide) rfl 0 rfl hq.1 mpa_3 d_MO_make_137 (fun H locs hP hS => ?_)
                    have hq := hq.2
                    obtain ⟨s92, e_s92⟩ : ∃ z, z = sA s85 3 (upd (gA s85 3) ((gI s85 0).toNatClampNeg) p4) := ⟨_, rfl⟩
                    rw [← e_s92] at hP
                    have hq := hq s92 e_s92
                    refine lv_aload_n hx hb d_MO_make_138 rfl (lv_at hl 2 rfl) ?_
                    refine lv_dup hx hb d_MO_make_139 rfl ?_
                    refine cw_get (C := R_MO) (T := F_MO) (N := 39) (v := .int (gI s92 0)) hx hb hts (in_MO _) hown hK hP 0 (by decide) rfl rfl 9 (by decide) (ht _ wC_691) rfl d_MO_make_140 ?_
                    refine lv_iconst (v := 1) hx hb d_MO_make_143 (by decide) ?_
                    refine lv_iadd hx hb d_MO_make_144 ?_
                    refine cw_put (C := R_MO) (T := F_MO) (N := 39) (ty := .int) (v := .int ((gI s92 0) + 1)) hx hb hts (in_MO _) t_MO tok_MO n_MO hown hK hP hi hS 0 (by decide) rfl rfl 9 (by decide) (ht _ wC_691) rfl (by decide +kernel) rfl rfl (Nat.le_of_ble_eq_true rfl) up_MO_many d_MO_make_145 (fun H locs hP hS => ?_)
                    obtain ⟨s93, e_s93⟩ : ∃ z, z = sI s92 0 ((gI s92 0) + 1) := ⟨_, rfl⟩
                    rw [← e_s93] at hP
                    have hq := hq s93 e_s93
                    refine lv_aload_n hx hb d_MO_make_148 rfl (lv_at hl 2 rfl) ?_
                    refine cw_get (C := R_MO) (T := F_MO) (N := 39) (v := .int (gI s93 0)) hx hb hts (in_MO _) hown hK hP 0 (by decide) rfl rfl 9 (by decide) (ht _ wC_691) rfl d_MO_make_149 ?_
                    refine lv_iconst (v := 1) hx hb d_MO_make_152 (by decide) ?_
                    refine lv_isub hx hb d_MO_make_153 ?_
                    exact W.iret hx hb hr (fun t ht hW => ⟨⟨((gI s93 0) - 1), s93, rfl, hq, by rw [ht]; exact hP, va_K.moved hW.alike hK, hN.warm hW⟩, hS.F ht⟩) hS.2.2 d_MO_make_154
            · have hq := hq.1 c72
              refine lv_iconst (v := 1) hx hb d_MO_make_65 (by decide) ?_
              refine lv_goto (tgt := 70) hx hb d_MO_make_66 (by decide) ?_
              refine lv_istore (lv' := [(6, .int 1), (5, .int r1), (0, .ref (am 0)), (1, .int p1), (2, .int p2), (3, .int p3), (4, .int p4)]) hx hb d_MO_make_70 hl (by decide) rfl (fun ls hl => ?_)
              refine lv_aload_n hx hb d_MO_make_72 rfl (lv_at hl 2 rfl) ?_
              refine cw_get (C := R_MO) (T := F_MO) (N := 39) (v := .ref (am 1)) hx hb hts (in_MO _) hown hK hP 0 (by decide) rfl rfl 0 (by decide) (ht _ wC_682) rfl d_MO_make_73 ?_
              refine lv_aload_n hx hb d_MO_make_76 rfl (lv_at hl 2 rfl) ?_
              refine cw_get (C := R_MO) (T := F_MO) (N := 39) (v := .int (gI s5 0)) hx hb hts (in_MO _) hown hK hP 0 (by decide) rfl rfl 9 (by decide) (ht _ wC_691) rfl d_MO_make_77 ?_
              refine lv_iload_n hx hb d_MO_make_80 rfl (lv_at hl 3 rfl) ?_
              refine cw_iast hx hb hK hP hi hS 1 (by decide) rfl 0 rfl hq.1 mpa_0 d_MO_make_81 (fun H locs hP hS => ?_)
              have hq := hq.2
              obtain ⟨s94, e_s94⟩ : ∃ z, z = sA s5 0 (upd (gA s5 0) ((gI s5 0).toNatClampNeg) p1) := ⟨_, rfl⟩
              rw [← e_s94] at hP
              have hq := hq s94 e_s94
              refine lv_aload_n hx hb d_MO_make_82 rfl (lv_at hl 2 rfl) ?_
              refine cw_get (C := R_MO) (T := F_MO) (N := 39) (v := .ref (am 2)) hx hb hts (in_MO _) hown hK hP 0 (by decide) rfl rfl 1 (by decide) (ht _ wC_683) rfl d_MO_make_83 ?_
              refine lv_aload_n hx hb d_MO_make_86 rfl (lv_at hl 2 rfl) ?_
              refine cw_get (C := R_MO) (T := F_MO) (N := 39) (v := .int (gI s94 0)) hx hb hts (in_MO _) hown hK hP 0 (by decide) rfl rfl 9 (by decide) (ht _ wC_691) rfl d_MO_make_87 ?_
              refine lv_iload_n hx hb d_MO_make_90 rfl (lv_at hl 4 rfl) ?_
              refine cw_iast hx hb hK hP hi hS 2 (by decide) rfl 0 rfl hq.1 mpa_1 d_MO_make_91 (fun H locs hP hS => ?_)
              have hq := hq.2
              obtain ⟨s95, e_s95⟩ : ∃ z, z = sA s94 1 (upd (gA s94 1) ((gI s94 0).toNatClampNeg) p2) := ⟨_, rfl⟩
              rw [← e_s95] at hP
              have hq := hq s95 e_s95
              refine lv_aload_n hx hb d_MO_make_92 rfl (lv_at hl 2 rfl) ?_
              refine cw_get (C := R_MO) (T := F_MO) (N := 39) (v := .ref (am 3)) hx hb hts (in_MO _) hown hK hP 0 (by decide) rfl rfl 2 (by decide) (ht _ wC_684) rfl d_MO_make_93 ?_
              refine lv_aload_n hx hb d_MO_make_96 rfl (lv_at hl 2 rfl) ?_
              refine cw_get (C := R_MO) (T := F_MO) (N := 39) (v := .int (gI s95 0)) hx hb hts (in_MO _) hown hK hP 0 (by decide) rfl rfl 9 (by decide) (ht _ wC_691) rfl d_MO_make_97 ?_
              refine lv_iload hx hb d_MO_make_100 (lv_at hl 0 rfl) ?_
              refine lv_if_eq (tgt := 109) hx hb d_MO_make_102 (by decide) (fun c96 => ?_) (fun c96 => ?_)
              · have hq := hq.1 c96
                refine lv_iload_n hx hb d_MO_make_109 rfl (lv_at hl 5 rfl) ?_
                refine cw_iast hx hb hK hP hi hS 3 (by decide) rfl 0 rfl hq.1 mpa_2 d_MO_make_110 (fun H locs hP hS => ?_)
                have hq := hq.2
                obtain ⟨s97, e_s97⟩ : ∃ z, z = sA s95 2 (upd (gA s95 2) ((gI s95 0).toNatClampNeg) p3) := ⟨_, rfl⟩
                rw [← e_s97] at hP
                have hq := hq s97 e_s97
                refine lv_aload_n hx hb d_MO_make_111 rfl (lv_at hl 2 rfl) ?_
                refine cw_get (C := R_MO) (T := F_MO) (N := 39) (v := .ref (am 4)) hx hb hts (in_MO _) hown hK hP 0 (by decide) rfl rfl 3 (by decide) (ht _ wC_685) rfl d_MO_make_112 ?_
                refine lv_aload_n hx hb d_MO_make_115 rfl (lv_at hl 2 rfl) ?_
                refine cw_get (C := R_MO) (T := F_MO) (N := 39) (v := .int (gI s97 0)) hx hb hts (in_MO _) hown hK hP 0 (by decide) rfl rfl 9 (by decide) (ht _ wC_691) rfl d_MO_make_116 ?_
                refine lv_iload_n hx hb d_MO_make_119 rfl (lv_at hl 3 rfl) ?_
                refine lv_bipush (v := 9) hx hb d_MO_make_120 (by decide) ?_
                refine lv_icmp_eq (tgt := 131) hx hb d_MO_make_122 (by decide) (fun c98 => ?_) (fun c98 => ?_)
                · have hq := hq.1 c98
                  refine lv_iload hx hb d_MO_make_131 (lv_at hl 6 rfl) ?_
                  refine lv_goto (tgt := 137) hx hb d_MO_make_133 (by decide) ?_
                  refine cw_iast hx hb hK hP hi hS 4 (by decide) rfl 0 rfl hq.1 mpa_3 d_MO_make_137 (fun H locs hP hS => ?_)
                  have hq := hq.2
                  obtain ⟨s99, e_s99⟩ : ∃ z, z = sA s97 3 (upd (gA s97 3) ((gI s97 0).toNatClampNeg) p4) := ⟨_, rfl⟩
                  rw [← e_s99] at hP
                  have hq := hq s99 e_s99
                  refine lv_aload_n hx hb d_MO_make_138 rfl (lv_at hl 2 rfl) ?_
                  refine lv_dup hx hb d_MO_make_139 rfl ?_
                  refine cw_get (C := R_MO) (T := F_MO) (N := 39) (v := .int (gI s99 0)) hx hb hts (in_MO _) hown hK hP 0 (by decide) rfl rfl 9 (by decide) (ht _ wC_691) rfl d_MO_make_140 ?_
                  refine lv_iconst (v := 1) hx hb d_MO_make_143 (by decide) ?_
                  refine lv_iadd hx hb d_MO_make_144 ?_
                  refine cw_put (C := R_MO) (T := F_MO) (N := 39) (ty := .int) (v := .int ((gI s99 0) + 1)) hx hb hts (in_MO _) t_MO tok_MO n_MO hown hK hP hi hS 0 (by decide) rfl rfl 9 (by decide) (ht _ wC_691) rfl (by decide +kernel) rfl rfl (Nat.le_of_ble_eq_true rfl) up_MO_many d_MO_make_145 (fun H locs hP hS => ?_)
                  obtain ⟨s100, e_s100⟩ : ∃ z, z = sI s99 0 ((gI s99 0) + 1) := ⟨_, rfl⟩
                  rw [← e_s100] at hP
                  have hq := hq s100 e_s100
                  refine lv_aload_n hx hb d_MO_make_148 rfl (lv_at hl 2 rfl) ?_
                  refine cw_get (C := R_MO) (T := F_MO) (N := 39) (v := .int (gI s100 0)) hx hb hts (in_MO _) hown hK hP 0 (by decide) rfl rfl 9 (by decide) (ht _ wC_691) rfl d_MO_make_149 ?_
                  refine lv_iconst (v := 1) hx hb d_MO_make_152 (by decide) ?_
                  refine lv_isub hx hb d_MO_make_153 ?_
                  exact W.iret hx hb hr (fun t ht hW => ⟨⟨((gI s100 0) - 1), s100, rfl, hq, by rw [ht]; exact hP, va_K.moved hW.alike hK, hN.warm hW⟩, hS.F ht⟩) hS.2.2 d_MO_make_154
                · have hq := hq.2 c98
                  refine lv_iload_n hx hb d_MO_make_125 rfl (lv_at hl 3 rfl) ?_
                  refine lv_bipush (v := 12) hx hb d_MO_make_126 (by decide) ?_
                  refine lv_icmp_ne (tgt := 136) hx hb d_MO_make_128 (by decide) (fun c101 => ?_) (fun c101 => ?_)
                  · have hq := hq.2 c101
                    refine lv_iconst (v := (-1)) hx hb d_MO_make_136 (by decide) ?_
                    refine cw_iast hx hb hK hP hi hS 4 (by decide) rfl 0 rfl hq.1 mpa_3 d_MO_make_137 (fun H locs hP hS => ?_)
                    have hq := hq.2
                    obtain ⟨s102, e_s102⟩ : ∃ z, z = sA s97 3 (upd (gA s97 3) ((gI s97 0).toNatClampNeg) (-1)) := ⟨_, rfl⟩
                    rw [← e_s102] at hP
                    have hq := hq s102 e_s102
                    refine lv_aload_n hx hb d_MO_make_138 rfl (lv_at hl 2 rfl) ?_
                    refine lv_dup hx hb d_MO_make_139 rfl ?_
                    refine cw_get (C := R_MO) (T := F_MO) (N := 39) (v := .int (gI s102 0)) hx hb hts (in_MO _) hown hK hP 0 (by decide) rfl rfl 9 (by decide) (ht _ wC_691) rfl d_MO_make_140 ?_
                    refine lv_iconst (v := 1) hx hb d_MO_make_143 (by decide) ?_
                    refine lv_iadd hx hb d_MO_make_144 ?_
                    refine cw_put (C := R_MO) (T := F_MO) (N := 39) (ty := .int) (v := .int ((gI s102 0) + 1)) hx hb hts (in_MO _) t_MO tok_MO n_MO hown hK hP hi hS 0 (by decide) rfl rfl 9 (by decide) (ht _ wC_691) rfl (by decide +kernel) rfl rfl (Nat.le_of_ble_eq_true rfl) up_MO_many d_MO_make_145 (fun H locs hP hS => ?_)
                    obtain ⟨s103, e_s103⟩ : ∃ z, z = sI s102 0 ((gI s102 0) + 1) := ⟨_, rfl⟩
                    rw [← e_s103] at hP
                    have hq := hq s103 e_s103
                    refine lv_aload_n hx hb d_MO_make_148 rfl (lv_at hl 2 rfl) ?_
                    refine cw_get (C := R_MO) (T := F_MO) (N := 39) (v := .int (gI s103 0)) hx hb hts (in_MO _) hown hK hP 0 (by decide) rfl rfl 9 (by decide) (ht _ wC_691) rfl d_MO_make_149 ?_
                    refine lv_iconst (v := 1) hx hb d_MO_make_152 (by decide) ?_
                    refine lv_isub hx hb d_MO_make_153 ?_
                    exact W.iret hx hb hr (fun t ht hW => ⟨⟨((gI s103 0) - 1), s103, rfl, hq, by rw [ht]; exact hP, va_K.moved hW.alike hK, hN.warm hW⟩, hS.F ht⟩) hS.2.2 d_MO_make_154
                  · have hq := hq.1 c101
                    refine lv_iload hx hb d_MO_make_131 (lv_at hl 6 rfl) ?_
                    refine lv_goto (tgt := 137) hx hb d_MO_make_133 (by decide) ?_
                    refine cw_iast hx hb hK hP hi hS 4 (by decide) rfl 0 rfl hq.1 mpa_3 d_MO_make_137 (fun H locs hP hS => ?_)
                    have hq := hq.2
                    obtain ⟨s104, e_s104⟩ : ∃ z, z = sA s97 3 (upd (gA s97 3) ((gI s97 0).toNatClampNeg) p4) := ⟨_, rfl⟩
                    rw [← e_s104] at hP
                    have hq := hq s104 e_s104
                    refine lv_aload_n hx hb d_MO_make_138 rfl (lv_at hl 2 rfl) ?_
                    refine lv_dup hx hb d_MO_make_139 rfl ?_
                    refine cw_get (C := R_MO) (T := F_MO) (N := 39) (v := .int (gI s104 0)) hx hb hts (in_MO _) hown hK hP 0 (by decide) rfl rfl 9 (by decide) (ht _ wC_691) rfl d_MO_make_140 ?_
                    refine lv_iconst (v := 1) hx hb d_MO_make_143 (by decide) ?_
                    refine lv_iadd hx hb d_MO_make_144 ?_
                    refine cw_put (C := R_MO) (T := F_MO) (N := 39) (ty := .int) (v := .int ((gI s104 0) + 1)) hx hb hts (in_MO _) t_MO tok_MO n_MO hown hK hP hi hS 0 (by decide) rfl rfl 9 (by decide) (ht _ wC_691) rfl (by decide +kernel) rfl rfl (Nat.le_of_ble_eq_true rfl) up_MO_many d_MO_make_145 (fun H locs hP hS => ?_)
                    obtain ⟨s105, e_s105⟩ : ∃ z, z = sI s104 0 ((gI s104 0) + 1) := ⟨_, rfl⟩
                    rw [← e_s105] at hP
                    have hq := hq s105 e_s105
                    refine lv_aload_n hx hb d_MO_make_148 rfl (lv_at hl 2 rfl) ?_
                    refine cw_get (C := R_MO) (T := F_MO) (N := 39) (v := .int (gI s105 0)) hx hb hts (in_MO _) hown hK hP 0 (by decide) rfl rfl 9 (by decide) (ht _ wC_691) rfl d_MO_make_149 ?_
                    refine lv_iconst (v := 1) hx hb d_MO_make_152 (by decide) ?_
                    refine lv_isub hx hb d_MO_make_153 ?_
                    exact W.iret hx hb hr (fun t ht hW => ⟨⟨((gI s105 0) - 1), s105, rfl, hq, by rw [ht]; exact hP, va_K.moved hW.alike hK, hN.warm hW⟩, hS.F ht⟩) hS.2.2 d_MO_make_154
              · have hq := hq.2 c96
                refine lv_iconst (v := (-1)) hx hb d_MO_make_105 (by decide) ?_
                refine lv_goto (tgt := 110) hx hb d_MO_make_106 (by decide) ?_
                refine cw_iast hx hb hK hP hi hS 3 (by decide) rfl 0 rfl hq.1 mpa_2 d_MO_make_110 (fun H locs hP hS => ?_)
                have hq := hq.2
                obtain ⟨s106, e_s106⟩ : ∃ z, z = sA s95 2 (upd (gA s95 2) ((gI s95 0).toNatClampNeg) (-1)) := ⟨_, rfl⟩
                rw [← e_s106] at hP
                have hq := hq s106 e_s106
                refine lv_aload_n hx hb d_MO_make_111 rfl (lv_at hl 2 rfl) ?_
                refine cw_get (C := R_MO) (T := F_MO) (N := 39) (v := .ref (am 4)) hx hb hts (in_MO _) hown hK hP 0 (by decide) rfl rfl 3 (by decide) (ht _ wC_685) rfl d_MO_make_112 ?_
                refine lv_aload_n hx hb d_MO_make_115 rfl (lv_at hl 2 rfl) ?_
                refine cw_get (C := R_MO) (T := F_MO) (N := 39) (v := .int (gI s106 0)) hx hb hts (in_MO _) hown hK hP 0 (by decide) rfl rfl 9 (by decide) (ht _ wC_691) rfl d_MO_make_116 ?_
                refine lv_iload_n hx hb d_MO_make_119 rfl (lv_at hl 3 rfl) ?_
                refine lv_bipush (v := 9) hx hb d_MO_make_120 (by decide) ?_
                refine lv_icmp_eq (tgt := 131) hx hb d_MO_make_122 (by decide) (fun c107 => ?_) (fun c107 => ?_)
                · have hq := hq.1 c107
                  refine lv_iload hx hb d_MO_make_131 (lv_at hl 6 rfl) ?_
                  refine lv_goto (tgt := 137) hx hb d_MO_make_133 (by decide) ?_
                  refine cw_iast hx hb hK hP hi hS 4 (by decide) rfl 0 rfl hq.1 mpa_3 d_MO_make_137 (fun H locs hP hS => ?_)
                  have hq := hq.2
                  obtain ⟨s108, e_s108⟩ : ∃ z, z = sA s106 3 (upd (gA s106 3) ((gI s106 0).toNatClampNeg) p4) := ⟨_, rfl⟩
                  rw [← e_s108] at hP
                  have hq := hq s108 e_s108
                  refine lv_aload_n hx hb d_MO_make_138 rfl (lv_at hl 2 rfl) ?_
                  refine lv_dup hx hb d_MO_make_139 rfl ?_
                  refine cw_get (C := R_MO) (T := F_MO) (N := 39) (v := .int (gI s108 0)) hx hb hts (in_MO _) hown hK hP 0 (by decide) rfl rfl 9 (by decide) (ht _ wC_691) rfl d_MO_make_140 ?_
                  refine lv_iconst (v := 1) hx hb d_MO_make_143 (by decide) ?_
                  refine lv_iadd hx hb d_MO_make_144 ?_
                  refine cw_put (C := R_MO) (T := F_MO) (N := 39) (ty := .int) (v := .int ((gI s108 0) + 1)) hx hb hts (in_MO _) t_MO tok_MO n_MO hown hK hP hi hS 0 (by decide) rfl rfl 9 (by decide) (ht _ wC_691) rfl (by decide +kernel) rfl rfl (Nat.le_of_ble_eq_true rfl) up_MO_many d_MO_make_145 (fun H locs hP hS => ?_)
                  obtain ⟨s109, e_s109⟩ : ∃ z, z = sI s108 0 ((gI s108 0) + 1) := ⟨_, rfl⟩
                  rw [← e_s109] at hP
                  have hq := hq s109 e_s109
                  refine lv_aload_n hx hb d_MO_make_148 rfl (lv_at hl 2 rfl) ?_
                  refine cw_get (C := R_MO) (T := F_MO) (N := 39) (v := .int (gI s109 0)) hx hb hts (in_MO _) hown hK hP 0 (by decide) rfl rfl 9 (by decide) (ht _ wC_691) rfl d_MO_make_149 ?_
                  refine lv_iconst (v := 1) hx hb d_MO_make_152 (by decide) ?_
                  refine lv_isub hx hb d_MO_make_153 ?_
                  exact W.iret hx hb hr (fun t ht hW => ⟨⟨((gI s109 0) - 1), s109, rfl, hq, by rw [ht]; exact hP, va_K.moved hW.alike hK, hN.warm hW⟩, hS.F ht⟩) hS.2.2 d_MO_make_154
                · have hq := hq.2 c107
                  refine lv_iload_n hx hb d_MO_make_125 rfl (lv_at hl 3 rfl) ?_
                  refine lv_bipush (v := 12) hx hb d_MO_make_126 (by decide) ?_
                  refine lv_icmp_ne (tgt := 136) hx hb d_MO_make_128 (by decide) (fun c110 => ?_) (fun c110 => ?_)
                  · have hq := hq.2 c110
                    refine lv_iconst (v := (-1)) hx hb d_MO_make_136 (by decide) ?_
                    refine cw_iast hx hb hK hP hi hS 4 (by decide) rfl 0 rfl hq.1 mpa_3 d_MO_make_137 (fun H locs hP hS => ?_)
                    have hq := hq.2
                    obtain ⟨s111, e_s111⟩ : ∃ z, z = sA s106 3 (upd (gA s106 3) ((gI s106 0).toNatClampNeg) (-1)) := ⟨_, rfl⟩
                    rw [← e_s111] at hP
                    have hq := hq s111 e_s111
                    refine lv_aload_n hx hb d_MO_make_138 rfl (lv_at hl 2 rfl) ?_
                    refine lv_dup hx hb d_MO_make_139 rfl ?_
                    refine cw_get (C := R_MO) (T := F_MO) (N := 39) (v := .int (gI s111 0)) hx hb hts (in_MO _) hown hK hP 0 (by decide) rfl rfl 9 (by decide) (ht _ wC_691) rfl d_MO_make_140 ?_
                    refine lv_iconst (v := 1) hx hb d_MO_make_143 (by decide) ?_
                    refine lv_iadd hx hb d_MO_make_144 ?_
                    refine cw_put (C := R_MO) (T := F_MO) (N := 39) (ty := .int) (v := .int ((gI s111 0) + 1)) hx hb hts (in_MO _) t_MO tok_MO n_MO hown hK hP hi hS 0 (by decide) rfl rfl 9 (by decide) (ht _ wC_691) rfl (by decide +kernel) rfl rfl (Nat.le_of_ble_eq_true rfl) up_MO_many d_MO_make_145 (fun H locs hP hS => ?_)
                    obtain ⟨s112, e_s112⟩ : ∃ z, z = sI s111 0 ((gI s111 0) + 1) := ⟨_, rfl⟩
                    rw [← e_s112] at hP
                    have hq := hq s112 e_s112
                    refine lv_aload_n hx hb d_MO_make_148 rfl (lv_at hl 2 rfl) ?_
                    refine cw_get (C := R_MO) (T := F_MO) (N := 39) (v := .int (gI s112 0)) hx hb hts (in_MO _) hown hK hP 0 (by decide) rfl rfl 9 (by decide) (ht _ wC_691) rfl d_MO_make_149 ?_
                    refine lv_iconst (v := 1) hx hb d_MO_make_152 (by decide) ?_
                    refine lv_isub hx hb d_MO_make_153 ?_
                    exact W.iret hx hb hr (fun t ht hW => ⟨⟨((gI s112 0) - 1), s112, rfl, hq, by rw [ht]; exact hP, va_K.moved hW.alike hK, hN.warm hW⟩, hS.F ht⟩) hS.2.2 d_MO_make_154
                  · have hq := hq.1 c110
                    refine lv_iload hx hb d_MO_make_131 (lv_at hl 6 rfl) ?_
                    refine lv_goto (tgt := 137) hx hb d_MO_make_133 (by decide) ?_
                    refine cw_iast hx hb hK hP hi hS 4 (by decide) rfl 0 rfl hq.1 mpa_3 d_MO_make_137 (fun H locs hP hS => ?_)
                    have hq := hq.2
                    obtain ⟨s113, e_s113⟩ : ∃ z, z = sA s106 3 (upd (gA s106 3) ((gI s106 0).toNatClampNeg) p4) := ⟨_, rfl⟩
                    rw [← e_s113] at hP
                    have hq := hq s113 e_s113
                    refine lv_aload_n hx hb d_MO_make_138 rfl (lv_at hl 2 rfl) ?_
                    refine lv_dup hx hb d_MO_make_139 rfl ?_
                    refine cw_get (C := R_MO) (T := F_MO) (N := 39) (v := .int (gI s113 0)) hx hb hts (in_MO _) hown hK hP 0 (by decide) rfl rfl 9 (by decide) (ht _ wC_691) rfl d_MO_make_140 ?_
                    refine lv_iconst (v := 1) hx hb d_MO_make_143 (by decide) ?_
                    refine lv_iadd hx hb d_MO_make_144 ?_
                    refine cw_put (C := R_MO) (T := F_MO) (N := 39) (ty := .int) (v := .int ((gI s113 0) + 1)) hx hb hts (in_MO _) t_MO tok_MO n_MO hown hK hP hi hS 0 (by decide) rfl rfl 9 (by decide) (ht _ wC_691) rfl (by decide +kernel) rfl rfl (Nat.le_of_ble_eq_true rfl) up_MO_many d_MO_make_145 (fun H locs hP hS => ?_)
                    obtain ⟨s114, e_s114⟩ : ∃ z, z = sI s113 0 ((gI s113 0) + 1) := ⟨_, rfl⟩
                    rw [← e_s114] at hP
                    have hq := hq s114 e_s114
                    refine lv_aload_n hx hb d_MO_make_148 rfl (lv_at hl 2 rfl) ?_
                    refine cw_get (C := R_MO) (T := F_MO) (N := 39) (v := .int (gI s114 0)) hx hb hts (in_MO _) hown hK hP 0 (by decide) rfl rfl 9 (by decide) (ht _ wC_691) rfl d_MO_make_149 ?_
                    refine lv_iconst (v := 1) hx hb d_MO_make_152 (by decide) ?_
                    refine lv_isub hx hb d_MO_make_153 ?_
                    exact W.iret hx hb hr (fun t ht hW => ⟨⟨((gI s114 0) - 1), s114, rfl, hq, by rw [ht]; exact hP, va_K.moved hW.alike hK, hN.warm hW⟩, hS.F ht⟩) hS.2.2 d_MO_make_154
    · have hq := hq.1 c4
      refine lv_aload_n hx hb d_MO_make_31 rfl (lv_at hl 1 rfl) ?_
      refine lv_iconst (v := 2) hx hb d_MO_make_32 (by decide) ?_
      refine va_calli (va_runV (As := [.int 2]) (rest := []) ⟨hx, hb, hml, hown, hts⟩ (c_MO_fail (D := D) (cs := cs) hi hq) (cwV 1 hts (good_V wC_819 wC_821 wC_25 wC_50 wC_822) rfl rfl rfl (by decide +kernel) ⟨(show 0 + 1 ≤ 3 by omega), (show 8 + (2 + 11) + 0 ≤ 67 by omega)⟩) ⟨mP_blind, va_recv hK hP (ci := 5) (q0 := 0) rfl (wd_at (by decide) rfl), fun U hU hW => ⟨rfl, by rw [hU]; exact hP, va_K.moved hW.alike hK, hN.warm hW⟩⟩ rfl rfl hl.1 rfl (lv_room (Nat.le_of_ble_eq_true rfl)) d_MO_make_33 ⟨Nat.le_of_ble_eq_true rfl, Nat.le_of_ble_eq_true rfl⟩) hS (fun q _ h => h) (fun q h => h) (fun r115 s116 t H locs ht0 hvm hq hB hz1 hk1 hS => ?_)
      obtain ⟨hP, -, -⟩ := hB
      rw [ht0] at hP
      exact W.iret hx hb hr (fun t ht hW => ⟨⟨r115, s116, rfl, hq, by rw [ht]; exact hP, va_K.moved hW.alike hK, hN.warm hW⟩, hS.F ht⟩) hS.2.2 d_MO_make_36
  · have hq := hq.1 c3
    refine lv_aload_n hx hb d_MO_make_16 rfl (lv_at hl 1 rfl) ?_
    refine lv_iconst (v := 1) hx hb d_MO_make_17 (by decide) ?_
    refine va_calli (va_runV (As := [.int 1]) (rest := []) ⟨hx, hb, hml, hown, hts⟩ (c_MO_fail (D := D) (cs := cs) hi hq) (cwV 1 hts (good_V wC_819 wC_821 wC_25 wC_50 wC_822) rfl rfl rfl (by decide +kernel) ⟨(show 0 + 1 ≤ 3 by omega), (show 8 + (2 + 11) + 0 ≤ 67 by omega)⟩) ⟨mP_blind, va_recv hK hP (ci := 5) (q0 := 0) rfl (wd_at (by decide) rfl), fun U hU hW => ⟨rfl, by rw [hU]; exact hP, va_K.moved hW.alike hK, hN.warm hW⟩⟩ rfl rfl hl.1 rfl (lv_room (Nat.le_of_ble_eq_true rfl)) d_MO_make_18 ⟨Nat.le_of_ble_eq_true rfl, Nat.le_of_ble_eq_true rfl⟩) hS (fun q _ h => h) (fun q h => h) (fun r117 s118 t H locs ht0 hvm hq hB hz1 hk1 hS => ?_)
    obtain ⟨hP, -, -⟩ := hB
    rw [ht0] at hP
    exact W.iret hx hb hr (fun t ht hW => ⟨⟨r117, s118, rfl, hq, by rw [ht]; exact hP, va_K.moved hW.alike hK, hN.warm hW⟩, hS.F ht⟩) hS.2.2 d_MO_make_21
def wp_MO_procedure (p1 : Int32) (p2 : Int32) (p3 : Int32) (p4 : Int32) (σ : CS) (Q : CS → Prop) : Prop := (wp_MO_within p1 0 3 σ (fun r1 s2 => ((r1 = 0 → (∀ s4 : CS, s4 = sI s2 5 1 → (((gI s4 5) ≤ 0 → (vp_in p1 4 ∧ (∀ s6 : CS, s6 = sA s4 4 (upd (gA s4 4) p1.toNatClampNeg p2) → (vp_in p1 4 ∧ (∀ s7 : CS, s7 = sA s6 5 (upd (gA s6 5) p1.toNatClampNeg p3) → (vp_in p1 4 ∧ (∀ s8 : CS, s8 = sA s7 6 (upd (gA s7 6) p1.toNatClampNeg p4) → Q s8))))))) ∧ (¬ (gI s4 5) ≤ 0 → Q s4)))) ∧ (¬ r1 = 0 → (wp_MO_isNode p2 s2 (fun r9 s10 => ((r9 = 0 → (∀ s12 : CS, s12 = sI s10 5 1 → (((gI s12 5) ≤ 0 → (vp_in p1 4 ∧ (∀ s14 : CS, s14 = sA s12 4 (upd (gA s12 4) p1.toNatClampNeg p2) → (vp_in p1 4 ∧ (∀ s15 : CS, s15 = sA s14 5 (upd (gA s14 5) p1.toNatClampNeg p3) → (vp_in p1 4 ∧ (∀ s16 : CS, s16 = sA s15 6 (upd (gA s15 6) p1.toNatClampNeg p4) → Q s16))))))) ∧ (¬ (gI s12 5) ≤ 0 → Q s12)))) ∧ (¬ r9 = 0 → (wp_MO_within p3 0 2 s10 (fun r17 s18 => ((r17 = 0 → (∀ s20 : CS, s20 = sI s18 5 1 → (((gI s20 5) ≤ 0 → (vp_in p1 4 ∧ (∀ s22 : CS, s22 = sA s20 4 (upd (gA s20 4) p1.toNatClampNeg p2) → (vp_in p1 4 ∧ (∀ s23 : CS, s23 = sA s22 5 (upd (gA s22 5) p1.toNatClampNeg p3) → (vp_in p1 4 ∧ (∀ s24 : CS, s24 = sA s23 6 (upd (gA s23 6) p1.toNatClampNeg p4) → Q s24))))))) ∧ (¬ (gI s20 5) ≤ 0 → Q s20)))) ∧ (¬ r17 = 0 → (wp_MO_within p4 0 3 s18 (fun r25 s26 => ((r25 = 0 → (∀ s28 : CS, s28 = sI s26 5 1 → (((gI s28 5) ≤ 0 → (vp_in p1 4 ∧ (∀ s30 : CS, s30 = sA s28 4 (upd (gA s28 4) p1.toNatClampNeg p2) → (vp_in p1 4 ∧ (∀ s31 : CS, s31 = sA s30 5 (upd (gA s30 5) p1.toNatClampNeg p3) → (vp_in p1 4 ∧ (∀ s32 : CS, s32 = sA s31 6 (upd (gA s31 6) p1.toNatClampNeg p4) → Q s32))))))) ∧ (¬ (gI s28 5) ≤ 0 → Q s28)))) ∧ (¬ r25 = 0 → (∀ s33 : CS, s33 = sI s26 5 0 → (((gI s33 5) ≤ 0 → (vp_in p1 4 ∧ (∀ s35 : CS, s35 = sA s33 4 (upd (gA s33 4) p1.toNatClampNeg p2) → (vp_in p1 4 ∧ (∀ s36 : CS, s36 = sA s35 5 (upd (gA s35 5) p1.toNatClampNeg p3) → (vp_in p1 4 ∧ (∀ s37 : CS, s37 = sA s36 6 (upd (gA s36 6) p1.toNatClampNeg p4) → Q s37))))))) ∧ (¬ (gI s33 5) ≤ 0 → Q s33)))))))))))))))))))
set_option maxHeartbeats 4000000 in
set_option maxRecDepth 100000 in
theorem c_MO_procedure {l : Launch} {D : va_G} {cs : CI} {am : Nat → Nat} (hi : aI am 25) {p1 : Int32} {p2 : Int32} {p3 : Int32} {p4 : Int32} {σ : CS} {Q : CS → Prop} (hq : wp_MO_procedure p1 p2 p3 p4 σ Q) : Met l y_MO_procedure (.code y_MO_procedure b_MO_procedure 5 none :: wC) ({ frames := 2, cells := 0, slots := 0, locals := 43 }) (va_Pc [.ref (am 0), .int p1, .int p2, .int p3, .int p4] (mP D cs am σ)) (va_Qv Q (mP D cs am) (aK am 25)) 0 0 (aK am 25) := by
  refine Met.ofW (cc := b_MO_procedure) (maxL := 5) (ret := none) (by decide) rfl ?_
  intro p e s m args below meth c s₁ B hml hv
  obtain ⟨rfl, hP, hK, hN⟩ := hv
  have hx := B.exec
  have hb := B.bytes
  have hr := B.returns
  have hts := atoms_spec (ws := .code y_MO_procedure b_MO_procedure 5 none :: wC) B.pre
  have ht : ∀ w ∈ wC, w.before _ s = true := fun w h => hts w (List.mem_cons_of_mem _ h)
  have hown : s.vm.findClass R_MO = some m.cls := findClass_of_methodNamed B.named
  have hlocks := B.notSynchronized
  have hS : va_S (aK am 25) s.heap s.heap [] := va_S.rf
  have hl := lv_entry ([.ref (am 0), .int p1, .int p2, .int p3, .int p4]) (n := 5) (Nat.le_of_ble_eq_true rfl)
  rw [lg_entry_eq]
  generalize (lg_sl ([.ref (am 0), .int p1, .int p2, .int p3, .int p4]) ++ List.replicate (5 - (lg_sl ([.ref (am 0), .int p1, .int p2, .int p3, .int p4])).length) Slot.unset).toArray = ls at hl ⊢
  have hl : lv_has ls 5 [(0, .ref (am 0)), (1, .int p1), (2, .int p2), (3, .int p3), (4, .int p4)] := hl
  unfold wp_MO_procedure at hq
  have hh8 : 8 < 9 := by decide
  refine lv_aload_n hx hb d_MO_procedure_0 rfl (lv_at hl 0 rfl) ?_
  refine lv_iload_n hx hb d_MO_procedure_1 rfl (lv_at hl 1 rfl) ?_
  refine lv_iconst (v := 0) hx hb d_MO_procedure_2 (by decide) ?_
  refine lv_iconst (v := 3) hx hb d_MO_procedure_3 (by decide) ?_
  refine va_calli (va_runS (As := [.int p1, .int 0, .int 3]) (rest := [.ref (am 0)]) ⟨hx, hb, hml, hown, hts⟩ (c_MO_within (D := D) (cs := cs) hi hq) (va_cwS 3 hts (good_S wC_812 wC_813 wC_50 wC_814) rfl rfl rfl (by decide +kernel) ⟨(show 0 + 1 ≤ 2 by omega), (show 8 + (3 + 11) + 0 ≤ 43 by omega)⟩) ⟨mP_blind, fun U hU hW => ⟨rfl, by rw [hU]; exact hP, va_K.moved hW.alike hK, hN.warm hW⟩⟩ rfl rfl hl.1 rfl (lv_room (Nat.le_of_ble_eq_true rfl)) d_MO_procedure_4 ⟨Nat.le_of_ble_eq_true rfl, Nat.le_of_ble_eq_true rfl⟩) hS (fun q _ h => h) (fun q h => h) (fun r1 s2 t H locs ht0 hvm hq hB hz1 hk1 hS => ?_)
  obtain ⟨hP, -, -⟩ := hB
  rw [ht0] at hP
  refine lv_if_eq (tgt := 41) hx hb d_MO_procedure_7 (by decide) (fun c3 => ?_) (fun c3 => ?_)
  · have hq := hq.1 c3
    refine lv_iconst (v := 1) hx hb d_MO_procedure_41 (by decide) ?_
    refine cw_put (C := R_MO) (T := F_MO) (N := 39) (ty := .int) (v := .int 1) hx hb hts (in_MO _) t_MO tok_MO n_MO hown hK hP hi hS 0 (by decide) rfl rfl 14 (by decide) (ht _ wC_696) rfl (by decide +kernel) rfl rfl (Nat.le_of_ble_eq_true rfl) up_MO_thrown d_MO_procedure_42 (fun H locs hP hS => ?_)
    obtain ⟨s4, e_s4⟩ : ∃ z, z = sI s2 5 1 := ⟨_, rfl⟩
    rw [← e_s4] at hP
    have hq := hq s4 e_s4
    refine lv_aload_n hx hb d_MO_procedure_45 rfl (lv_at hl 0 rfl) ?_
    refine cw_get (C := R_MO) (T := F_MO) (N := 39) (v := .int (gI s4 5)) hx hb hts (in_MO _) hown hK hP 0 (by decide) rfl rfl 14 (by decide) (ht _ wC_696) rfl d_MO_procedure_46 ?_
    refine lv_if_le (tgt := 53) hx hb d_MO_procedure_49 (by decide) (fun c5 => ?_) (fun c5 => ?_)
    · have hq := hq.1 c5
      refine lv_aload_n hx hb d_MO_procedure_53 rfl (lv_at hl 0 rfl) ?_
      refine cw_get (C := R_MO) (T := F_MO) (N := 39) (v := .ref (am 5)) hx hb hts (in_MO _) hown hK hP 0 (by decide) rfl rfl 4 (by decide) (ht _ wC_686) rfl d_MO_procedure_54 ?_
      refine lv_iload_n hx hb d_MO_procedure_57 rfl (lv_at hl 1 rfl) ?_
      refine lv_iload_n hx hb d_MO_procedure_58 rfl (lv_at hl 2 rfl) ?_
      refine cw_iast hx hb hK hP hi hS 5 (by decide) rfl 0 rfl hq.1 mpa_4 d_MO_procedure_59 (fun H locs hP hS => ?_)
      have hq := hq.2
      obtain ⟨s6, e_s6⟩ : ∃ z, z = sA s4 4 (upd (gA s4 4) p1.toNatClampNeg p2) := ⟨_, rfl⟩
      rw [← e_s6] at hP
      have hq := hq s6 e_s6
      refine lv_aload_n hx hb d_MO_procedure_60 rfl (lv_at hl 0 rfl) ?_
      refine cw_get (C := R_MO) (T := F_MO) (N := 39) (v := .ref (am 6)) hx hb hts (in_MO _) hown hK hP 0 (by decide) rfl rfl 5 (by decide) (ht _ wC_687) rfl d_MO_procedure_61 ?_
      refine lv_iload_n hx hb d_MO_procedure_64 rfl (lv_at hl 1 rfl) ?_
      refine lv_iload_n hx hb d_MO_procedure_65 rfl (lv_at hl 3 rfl) ?_
      refine cw_iast hx hb hK hP hi hS 6 (by decide) rfl 0 rfl hq.1 mpa_5 d_MO_procedure_66 (fun H locs hP hS => ?_)
      have hq := hq.2
      obtain ⟨s7, e_s7⟩ : ∃ z, z = sA s6 5 (upd (gA s6 5) p1.toNatClampNeg p3) := ⟨_, rfl⟩
      rw [← e_s7] at hP
      have hq := hq s7 e_s7
      refine lv_aload_n hx hb d_MO_procedure_67 rfl (lv_at hl 0 rfl) ?_
      refine cw_get (C := R_MO) (T := F_MO) (N := 39) (v := .ref (am 7)) hx hb hts (in_MO _) hown hK hP 0 (by decide) rfl rfl 6 (by decide) (ht _ wC_688) rfl d_MO_procedure_68 ?_
      refine lv_iload_n hx hb d_MO_procedure_71 rfl (lv_at hl 1 rfl) ?_
      refine lv_iload hx hb d_MO_procedure_72 (lv_at hl 4 rfl) ?_
      refine cw_iast hx hb hK hP hi hS 7 (by decide) rfl 0 rfl hq.1 mpa_6 d_MO_procedure_74 (fun H locs hP hS => ?_)
      have hq := hq.2
      obtain ⟨s8, e_s8⟩ : ∃ z, z = sA s7 6 (upd (gA s7 6) p1.toNatClampNeg p4) := ⟨_, rfl⟩
      rw [← e_s8] at hP
      have hq := hq s8 e_s8
      exact W.vret hx hb hr (fun t ht hW => ⟨⟨s8, rfl, hq, by rw [ht]; exact hP, va_K.moved hW.alike hK, hN.warm hW⟩, hS.F ht⟩) hS.2.2 d_MO_procedure_75
    · have hq := hq.2 c5
      exact W.vret hx hb hr (fun t ht hW => ⟨⟨s4, rfl, hq, by rw [ht]; exact hP, va_K.moved hW.alike hK, hN.warm hW⟩, hS.F ht⟩) hS.2.2 d_MO_procedure_52
  · have hq := hq.2 c3
    refine lv_aload_n hx hb d_MO_procedure_10 rfl (lv_at hl 0 rfl) ?_
    refine lv_iload_n hx hb d_MO_procedure_11 rfl (lv_at hl 2 rfl) ?_
    refine va_calli (va_runV (As := [.int p2]) (rest := [.ref (am 0)]) ⟨hx, hb, hml, hown, hts⟩ (c_MO_isNode (D := D) (cs := cs) hi hq) (cwV 1 hts (good_V wC_815 wC_817 wC_24 wC_50 wC_818) rfl rfl rfl (by decide +kernel) ⟨(show 1 + 1 ≤ 2 by omega), (show 8 + (2 + 11) + 22 ≤ 43 by omega)⟩) ⟨mP_blind, va_recv hK hP (ci := 5) (q0 := 0) rfl (wd_at (by decide) rfl), fun U hU hW => ⟨rfl, by rw [hU]; exact hP, va_K.moved hW.alike hK, hN.warm hW⟩⟩ rfl rfl hl.1 rfl (lv_room (Nat.le_of_ble_eq_true rfl)) d_MO_procedure_12 ⟨Nat.le_of_ble_eq_true rfl, Nat.le_of_ble_eq_true rfl⟩) hS (fun q _ h => h) (fun q h => h) (fun r9 s10 t H locs ht0 hvm hq hB hz1 hk1 hS => ?_)
    obtain ⟨hP, -, -⟩ := hB
    rw [ht0] at hP
    refine lv_if_eq (tgt := 41) hx hb d_MO_procedure_15 (by decide) (fun c11 => ?_) (fun c11 => ?_)
    · have hq := hq.1 c11
      refine lv_iconst (v := 1) hx hb d_MO_procedure_41 (by decide) ?_
      refine cw_put (C := R_MO) (T := F_MO) (N := 39) (ty := .int) (v := .int 1) hx hb hts (in_MO _) t_MO tok_MO n_MO hown hK hP hi hS 0 (by decide) rfl rfl 14 (by decide) (ht _ wC_696) rfl (by decide +kernel) rfl rfl (Nat.le_of_ble_eq_true rfl) up_MO_thrown d_MO_procedure_42 (fun H locs hP hS => ?_)
      obtain ⟨s12, e_s12⟩ : ∃ z, z = sI s10 5 1 := ⟨_, rfl⟩
      rw [← e_s12] at hP
      have hq := hq s12 e_s12
      refine lv_aload_n hx hb d_MO_procedure_45 rfl (lv_at hl 0 rfl) ?_
      refine cw_get (C := R_MO) (T := F_MO) (N := 39) (v := .int (gI s12 5)) hx hb hts (in_MO _) hown hK hP 0 (by decide) rfl rfl 14 (by decide) (ht _ wC_696) rfl d_MO_procedure_46 ?_
      refine lv_if_le (tgt := 53) hx hb d_MO_procedure_49 (by decide) (fun c13 => ?_) (fun c13 => ?_)
      · have hq := hq.1 c13
        refine lv_aload_n hx hb d_MO_procedure_53 rfl (lv_at hl 0 rfl) ?_
        refine cw_get (C := R_MO) (T := F_MO) (N := 39) (v := .ref (am 5)) hx hb hts (in_MO _) hown hK hP 0 (by decide) rfl rfl 4 (by decide) (ht _ wC_686) rfl d_MO_procedure_54 ?_
        refine lv_iload_n hx hb d_MO_procedure_57 rfl (lv_at hl 1 rfl) ?_
        refine lv_iload_n hx hb d_MO_procedure_58 rfl (lv_at hl 2 rfl) ?_
        refine cw_iast hx hb hK hP hi hS 5 (by decide) rfl 0 rfl hq.1 mpa_4 d_MO_procedure_59 (fun H locs hP hS => ?_)
        have hq := hq.2
        obtain ⟨s14, e_s14⟩ : ∃ z, z = sA s12 4 (upd (gA s12 4) p1.toNatClampNeg p2) := ⟨_, rfl⟩
        rw [← e_s14] at hP
        have hq := hq s14 e_s14
        refine lv_aload_n hx hb d_MO_procedure_60 rfl (lv_at hl 0 rfl) ?_
        refine cw_get (C := R_MO) (T := F_MO) (N := 39) (v := .ref (am 6)) hx hb hts (in_MO _) hown hK hP 0 (by decide) rfl rfl 5 (by decide) (ht _ wC_687) rfl d_MO_procedure_61 ?_
        refine lv_iload_n hx hb d_MO_procedure_64 rfl (lv_at hl 1 rfl) ?_
        refine lv_iload_n hx hb d_MO_procedure_65 rfl (lv_at hl 3 rfl) ?_
        refine cw_iast hx hb hK hP hi hS 6 (by decide) rfl 0 rfl hq.1 mpa_5 d_MO_procedure_66 (fun H locs hP hS => ?_)
        have hq := hq.2
        obtain ⟨s15, e_s15⟩ : ∃ z, z = sA s14 5 (upd (gA s14 5) p1.toNatClampNeg p3) := ⟨_, rfl⟩
        rw [← e_s15] at hP
        have hq := hq s15 e_s15
        refine lv_aload_n hx hb d_MO_procedure_67 rfl (lv_at hl 0 rfl) ?_
        refine cw_get (C := R_MO) (T := F_MO) (N := 39) (v := .ref (am 7)) hx hb hts (in_MO _) hown hK hP 0 (by decide) rfl rfl 6 (by decide) (ht _ wC_688) rfl d_MO_procedure_68 ?_
        refine lv_iload_n hx hb d_MO_procedure_71 rfl (lv_at hl 1 rfl) ?_
        refine lv_iload hx hb d_MO_procedure_72 (lv_at hl 4 rfl) ?_
        refine cw_iast hx hb hK hP hi hS 7 (by decide) rfl 0 rfl hq.1 mpa_6 d_MO_procedure_74 (fun H locs hP hS => ?_)
        have hq := hq.2
        obtain ⟨s16, e_s16⟩ : ∃ z, z = sA s15 6 (upd (gA s15 6) p1.toNatClampNeg p4) := ⟨_, rfl⟩
        rw [← e_s16] at hP
        have hq := hq s16 e_s16
        exact W.vret hx hb hr (fun t ht hW => ⟨⟨s16, rfl, hq, by rw [ht]; exact hP, va_K.moved hW.alike hK, hN.warm hW⟩, hS.F ht⟩) hS.2.2 d_MO_procedure_75
      · have hq := hq.2 c13
        exact W.vret hx hb hr (fun t ht hW => ⟨⟨s12, rfl, hq, by rw [ht]; exact hP, va_K.moved hW.alike hK, hN.warm hW⟩, hS.F ht⟩) hS.2.2 d_MO_procedure_52
    · have hq := hq.2 c11
      refine lv_iload_n hx hb d_MO_procedure_18 rfl (lv_at hl 3 rfl) ?_
      refine lv_iconst (v := 0) hx hb d_MO_procedure_19 (by decide) ?_
      refine lv_iconst (v := 2) hx hb d_MO_procedure_20 (by decide) ?_
      refine va_calli (va_runS (As := [.int p3, .int 0, .int 2]) (rest := [.ref (am 0)]) ⟨hx, hb, hml, hown, hts⟩ (c_MO_within (D := D) (cs := cs) hi hq) (va_cwS 3 hts (good_S wC_812 wC_813 wC_50 wC_814) rfl rfl rfl (by decide +kernel) ⟨(show 0 + 1 ≤ 2 by omega), (show 8 + (3 + 11) + 0 ≤ 43 by omega)⟩) ⟨mP_blind, fun U hU hW => ⟨rfl, by rw [hU]; exact hP, va_K.moved hW.alike hK, hN.warm hW⟩⟩ rfl rfl hl.1 rfl (lv_room (Nat.le_of_ble_eq_true rfl)) d_MO_procedure_21 ⟨Nat.le_of_ble_eq_true rfl, Nat.le_of_ble_eq_true rfl⟩) hS (fun q _ h => h) (fun q h => h) (fun r17 s18 t H locs ht0 hvm hq hB hz1 hk1 hS => ?_)
      obtain ⟨hP, -, -⟩ := hB
      rw [ht0] at hP
      refine lv_if_eq (tgt := 41) hx hb d_MO_procedure_24 (by decide) (fun c19 => ?_) (fun c19 => ?_)
      · have hq := hq.1 c19
        refine lv_iconst (v := 1) hx hb d_MO_procedure_41 (by decide) ?_
        refine cw_put (C := R_MO) (T := F_MO) (N := 39) (ty := .int) (v := .int 1) hx hb hts (in_MO _) t_MO tok_MO n_MO hown hK hP hi hS 0 (by decide) rfl rfl 14 (by decide) (ht _ wC_696) rfl (by decide +kernel) rfl rfl (Nat.le_of_ble_eq_true rfl) up_MO_thrown d_MO_procedure_42 (fun H locs hP hS => ?_)
        obtain ⟨s20, e_s20⟩ : ∃ z, z = sI s18 5 1 := ⟨_, rfl⟩
        rw [← e_s20] at hP
        have hq := hq s20 e_s20
        refine lv_aload_n hx hb d_MO_procedure_45 rfl (lv_at hl 0 rfl) ?_
        refine cw_get (C := R_MO) (T := F_MO) (N := 39) (v := .int (gI s20 5)) hx hb hts (in_MO _) hown hK hP 0 (by decide) rfl rfl 14 (by decide) (ht _ wC_696) rfl d_MO_procedure_46 ?_
        refine lv_if_le (tgt := 53) hx hb d_MO_procedure_49 (by decide) (fun c21 => ?_) (fun c21 => ?_)
        · have hq := hq.1 c21
          refine lv_aload_n hx hb d_MO_procedure_53 rfl (lv_at hl 0 rfl) ?_
          refine cw_get (C := R_MO) (T := F_MO) (N := 39) (v := .ref (am 5)) hx hb hts (in_MO _) hown hK hP 0 (by decide) rfl rfl 4 (by decide) (ht _ wC_686) rfl d_MO_procedure_54 ?_
          refine lv_iload_n hx hb d_MO_procedure_57 rfl (lv_at hl 1 rfl) ?_
          refine lv_iload_n hx hb d_MO_procedure_58 rfl (lv_at hl 2 rfl) ?_
          refine cw_iast hx hb hK hP hi hS 5 (by decide) rfl 0 rfl hq.1 mpa_4 d_MO_procedure_59 (fun H locs hP hS => ?_)
          have hq := hq.2
          obtain ⟨s22, e_s22⟩ : ∃ z, z = sA s20 4 (upd (gA s20 4) p1.toNatClampNeg p2) := ⟨_, rfl⟩
          rw [← e_s22] at hP
          have hq := hq s22 e_s22
          refine lv_aload_n hx hb d_MO_procedure_60 rfl (lv_at hl 0 rfl) ?_
          refine cw_get (C := R_MO) (T := F_MO) (N := 39) (v := .ref (am 6)) hx hb hts (in_MO _) hown hK hP 0 (by decide) rfl rfl 5 (by decide) (ht _ wC_687) rfl d_MO_procedure_61 ?_
          refine lv_iload_n hx hb d_MO_procedure_64 rfl (lv_at hl 1 rfl) ?_
          refine lv_iload_n hx hb d_MO_procedure_65 rfl (lv_at hl 3 rfl) ?_
          refine cw_iast hx hb hK hP hi hS 6 (by decide) rfl 0 rfl hq.1 mpa_5 d_MO_procedure_66 (fun H locs hP hS => ?_)
          have hq := hq.2
          obtain ⟨s23, e_s23⟩ : ∃ z, z = sA s22 5 (upd (gA s22 5) p1.toNatClampNeg p3) := ⟨_, rfl⟩
          rw [← e_s23] at hP
          have hq := hq s23 e_s23
          refine lv_aload_n hx hb d_MO_procedure_67 rfl (lv_at hl 0 rfl) ?_
          refine cw_get (C := R_MO) (T := F_MO) (N := 39) (v := .ref (am 7)) hx hb hts (in_MO _) hown hK hP 0 (by decide) rfl rfl 6 (by decide) (ht _ wC_688) rfl d_MO_procedure_68 ?_
          refine lv_iload_n hx hb d_MO_procedure_71 rfl (lv_at hl 1 rfl) ?_
          refine lv_iload hx hb d_MO_procedure_72 (lv_at hl 4 rfl) ?_
          refine cw_iast hx hb hK hP hi hS 7 (by decide) rfl 0 rfl hq.1 mpa_6 d_MO_procedure_74 (fun H locs hP hS => ?_)
          have hq := hq.2
          obtain ⟨s24, e_s24⟩ : ∃ z, z = sA s23 6 (upd (gA s23 6) p1.toNatClampNeg p4) := ⟨_, rfl⟩
          rw [← e_s24] at hP
          have hq := hq s24 e_s24
          exact W.vret hx hb hr (fun t ht hW => ⟨⟨s24, rfl, hq, by rw [ht]; exact hP, va_K.moved hW.alike hK, hN.warm hW⟩, hS.F ht⟩) hS.2.2 d_MO_procedure_75
        · have hq := hq.2 c21
          exact W.vret hx hb hr (fun t ht hW => ⟨⟨s20, rfl, hq, by rw [ht]; exact hP, va_K.moved hW.alike hK, hN.warm hW⟩, hS.F ht⟩) hS.2.2 d_MO_procedure_52
      · have hq := hq.2 c19
        refine lv_iload hx hb d_MO_procedure_27 (lv_at hl 4 rfl) ?_
        refine lv_iconst (v := 0) hx hb d_MO_procedure_29 (by decide) ?_
        refine lv_iconst (v := 3) hx hb d_MO_procedure_30 (by decide) ?_
        refine va_calli (va_runS (As := [.int p4, .int 0, .int 3]) (rest := [.ref (am 0)]) ⟨hx, hb, hml, hown, hts⟩ (c_MO_within (D := D) (cs := cs) hi hq) (va_cwS 3 hts (good_S wC_812 wC_813 wC_50 wC_814) rfl rfl rfl (by decide +kernel) ⟨(show 0 + 1 ≤ 2 by omega), (show 8 + (3 + 11) + 0 ≤ 43 by omega)⟩) ⟨mP_blind, fun U hU hW => ⟨rfl, by rw [hU]; exact hP, va_K.moved hW.alike hK, hN.warm hW⟩⟩ rfl rfl hl.1 rfl (lv_room (Nat.le_of_ble_eq_true rfl)) d_MO_procedure_31 ⟨Nat.le_of_ble_eq_true rfl, Nat.le_of_ble_eq_true rfl⟩) hS (fun q _ h => h) (fun q h => h) (fun r25 s26 t H locs ht0 hvm hq hB hz1 hk1 hS => ?_)
        obtain ⟨hP, -, -⟩ := hB
        rw [ht0] at hP
        refine lv_if_eq (tgt := 41) hx hb d_MO_procedure_34 (by decide) (fun c27 => ?_) (fun c27 => ?_)
        · have hq := hq.1 c27
          refine lv_iconst (v := 1) hx hb d_MO_procedure_41 (by decide) ?_
          refine cw_put (C := R_MO) (T := F_MO) (N := 39) (ty := .int) (v := .int 1) hx hb hts (in_MO _) t_MO tok_MO n_MO hown hK hP hi hS 0 (by decide) rfl rfl 14 (by decide) (ht _ wC_696) rfl (by decide +kernel) rfl rfl (Nat.le_of_ble_eq_true rfl) up_MO_thrown d_MO_procedure_42 (fun H locs hP hS => ?_)
          obtain ⟨s28, e_s28⟩ : ∃ z, z = sI s26 5 1 := ⟨_, rfl⟩
          rw [← e_s28] at hP
          have hq := hq s28 e_s28
          refine lv_aload_n hx hb d_MO_procedure_45 rfl (lv_at hl 0 rfl) ?_
          refine cw_get (C := R_MO) (T := F_MO) (N := 39) (v := .int (gI s28 5)) hx hb hts (in_MO _) hown hK hP 0 (by decide) rfl rfl 14 (by decide) (ht _ wC_696) rfl d_MO_procedure_46 ?_
          refine lv_if_le (tgt := 53) hx hb d_MO_procedure_49 (by decide) (fun c29 => ?_) (fun c29 => ?_)
          · have hq := hq.1 c29
            refine lv_aload_n hx hb d_MO_procedure_53 rfl (lv_at hl 0 rfl) ?_
            refine cw_get (C := R_MO) (T := F_MO) (N := 39) (v := .ref (am 5)) hx hb hts (in_MO _) hown hK hP 0 (by decide) rfl rfl 4 (by decide) (ht _ wC_686) rfl d_MO_procedure_54 ?_
            refine lv_iload_n hx hb d_MO_procedure_57 rfl (lv_at hl 1 rfl) ?_
            refine lv_iload_n hx hb d_MO_procedure_58 rfl (lv_at hl 2 rfl) ?_
            refine cw_iast hx hb hK hP hi hS 5 (by decide) rfl 0 rfl hq.1 mpa_4 d_MO_procedure_59 (fun H locs hP hS => ?_)
            have hq := hq.2
            obtain ⟨s30, e_s30⟩ : ∃ z, z = sA s28 4 (upd (gA s28 4) p1.toNatClampNeg p2) := ⟨_, rfl⟩
            rw [← e_s30] at hP
            have hq := hq s30 e_s30
            refine lv_aload_n hx hb d_MO_procedure_60 rfl (lv_at hl 0 rfl) ?_
            refine cw_get (C := R_MO) (T := F_MO) (N := 39) (v := .ref (am 6)) hx hb hts (in_MO _) hown hK hP 0 (by decide) rfl rfl 5 (by decide) (ht _ wC_687) rfl d_MO_procedure_61 ?_
            refine lv_iload_n hx hb d_MO_procedure_64 rfl (lv_at hl 1 rfl) ?_
            refine lv_iload_n hx hb d_MO_procedure_65 rfl (lv_at hl 3 rfl) ?_
            refine cw_iast hx hb hK hP hi hS 6 (by decide) rfl 0 rfl hq.1 mpa_5 d_MO_procedure_66 (fun H locs hP hS => ?_)
            have hq := hq.2
            obtain ⟨s31, e_s31⟩ : ∃ z, z = sA s30 5 (upd (gA s30 5) p1.toNatClampNeg p3) := ⟨_, rfl⟩
            rw [← e_s31] at hP
            have hq := hq s31 e_s31
            refine lv_aload_n hx hb d_MO_procedure_67 rfl (lv_at hl 0 rfl) ?_
            refine cw_get (C := R_MO) (T := F_MO) (N := 39) (v := .ref (am 7)) hx hb hts (in_MO _) hown hK hP 0 (by decide) rfl rfl 6 (by decide) (ht _ wC_688) rfl d_MO_procedure_68 ?_
            refine lv_iload_n hx hb d_MO_procedure_71 rfl (lv_at hl 1 rfl) ?_
            refine lv_iload hx hb d_MO_procedure_72 (lv_at hl 4 rfl) ?_
            refine cw_iast hx hb hK hP hi hS 7 (by decide) rfl 0 rfl hq.1 mpa_6 d_MO_procedure_74 (fun H locs hP hS => ?_)
            have hq := hq.2
            obtain ⟨s32, e_s32⟩ : ∃ z, z = sA s31 6 (upd (gA s31 6) p1.toNatClampNeg p4) := ⟨_, rfl⟩
            rw [← e_s32] at hP
            have hq := hq s32 e_s32
            exact W.vret hx hb hr (fun t ht hW => ⟨⟨s32, rfl, hq, by rw [ht]; exact hP, va_K.moved hW.alike hK, hN.warm hW⟩, hS.F ht⟩) hS.2.2 d_MO_procedure_75
          · have hq := hq.2 c29
            exact W.vret hx hb hr (fun t ht hW => ⟨⟨s28, rfl, hq, by rw [ht]; exact hP, va_K.moved hW.alike hK, hN.warm hW⟩, hS.F ht⟩) hS.2.2 d_MO_procedure_52
        · have hq := hq.2 c27
          refine lv_iconst (v := 0) hx hb d_MO_procedure_37 (by decide) ?_
          refine lv_goto (tgt := 42) hx hb d_MO_procedure_38 (by decide) ?_
          refine cw_put (C := R_MO) (T := F_MO) (N := 39) (ty := .int) (v := .int 0) hx hb hts (in_MO _) t_MO tok_MO n_MO hown hK hP hi hS 0 (by decide) rfl rfl 14 (by decide) (ht _ wC_696) rfl (by decide +kernel) rfl rfl (Nat.le_of_ble_eq_true rfl) up_MO_thrown d_MO_procedure_42 (fun H locs hP hS => ?_)
          obtain ⟨s33, e_s33⟩ : ∃ z, z = sI s26 5 0 := ⟨_, rfl⟩
          rw [← e_s33] at hP
          have hq := hq s33 e_s33
          refine lv_aload_n hx hb d_MO_procedure_45 rfl (lv_at hl 0 rfl) ?_
          refine cw_get (C := R_MO) (T := F_MO) (N := 39) (v := .int (gI s33 5)) hx hb hts (in_MO _) hown hK hP 0 (by decide) rfl rfl 14 (by decide) (ht _ wC_696) rfl d_MO_procedure_46 ?_
          refine lv_if_le (tgt := 53) hx hb d_MO_procedure_49 (by decide) (fun c34 => ?_) (fun c34 => ?_)
          · have hq := hq.1 c34
            refine lv_aload_n hx hb d_MO_procedure_53 rfl (lv_at hl 0 rfl) ?_
            refine cw_get (C := R_MO) (T := F_MO) (N := 39) (v := .ref (am 5)) hx hb hts (in_MO _) hown hK hP 0 (by decide) rfl rfl 4 (by decide) (ht _ wC_686) rfl d_MO_procedure_54 ?_
            refine lv_iload_n hx hb d_MO_procedure_57 rfl (lv_at hl 1 rfl) ?_
            refine lv_iload_n hx hb d_MO_procedure_58 rfl (lv_at hl 2 rfl) ?_
            refine cw_iast hx hb hK hP hi hS 5 (by decide) rfl 0 rfl hq.1 mpa_4 d_MO_procedure_59 (fun H locs hP hS => ?_)
            have hq := hq.2
            obtain ⟨s35, e_s35⟩ : ∃ z, z = sA s33 4 (upd (gA s33 4) p1.toNatClampNeg p2) := ⟨_, rfl⟩
            rw [← e_s35] at hP
            have hq := hq s35 e_s35
            refine lv_aload_n hx hb d_MO_procedure_60 rfl (lv_at hl 0 rfl) ?_
            refine cw_get (C := R_MO) (T := F_MO) (N := 39) (v := .ref (am 6)) hx hb hts (in_MO _) hown hK hP 0 (by decide) rfl rfl 5 (by decide) (ht _ wC_687) rfl d_MO_procedure_61 ?_
            refine lv_iload_n hx hb d_MO_procedure_64 rfl (lv_at hl 1 rfl) ?_
            refine lv_iload_n hx hb d_MO_procedure_65 rfl (lv_at hl 3 rfl) ?_
            refine cw_iast hx hb hK hP hi hS 6 (by decide) rfl 0 rfl hq.1 mpa_5 d_MO_procedure_66 (fun H locs hP hS => ?_)
            have hq := hq.2
            obtain ⟨s36, e_s36⟩ : ∃ z, z = sA s35 5 (upd (gA s35 5) p1.toNatClampNeg p3) := ⟨_, rfl⟩
            rw [← e_s36] at hP
            have hq := hq s36 e_s36
            refine lv_aload_n hx hb d_MO_procedure_67 rfl (lv_at hl 0 rfl) ?_
            refine cw_get (C := R_MO) (T := F_MO) (N := 39) (v := .ref (am 7)) hx hb hts (in_MO _) hown hK hP 0 (by decide) rfl rfl 6 (by decide) (ht _ wC_688) rfl d_MO_procedure_68 ?_
            refine lv_iload_n hx hb d_MO_procedure_71 rfl (lv_at hl 1 rfl) ?_
            refine lv_iload hx hb d_MO_procedure_72 (lv_at hl 4 rfl) ?_
            refine cw_iast hx hb hK hP hi hS 7 (by decide) rfl 0 rfl hq.1 mpa_6 d_MO_procedure_74 (fun H locs hP hS => ?_)
            have hq := hq.2
            obtain ⟨s37, e_s37⟩ : ∃ z, z = sA s36 6 (upd (gA s36 6) p1.toNatClampNeg p4) := ⟨_, rfl⟩
            rw [← e_s37] at hP
            have hq := hq s37 e_s37
            exact W.vret hx hb hr (fun t ht hW => ⟨⟨s37, rfl, hq, by rw [ht]; exact hP, va_K.moved hW.alike hK, hN.warm hW⟩, hS.F ht⟩) hS.2.2 d_MO_procedure_75
          · have hq := hq.2 c34
            exact W.vret hx hb hr (fun t ht hW => ⟨⟨s33, rfl, hq, by rw [ht]; exact hP, va_K.moved hW.alike hK, hN.warm hW⟩, hS.F ht⟩) hS.2.2 d_MO_procedure_52
def lp_MO_bounds_52 (p1 : Int32) (p2 : Int32) (p3 : Int32) (p4 : Int32) (Q : Int32 → CS → Prop) : Nat → Int32 → CS → Prop
  | 0 => fun _ _ => False
  | k + 1 => fun x5 σ => ((25 ≤ x5 → Q (((p2 - p1) + 1) * ((p4 - p3) + 1)) σ) ∧ (¬ 25 ≤ x5 → (vp_in x5 25 ∧ (∀ s15 : CS, s15 = sD σ 1 (vf_upd (gD σ 1) x5.toNatClampNeg FP.dconst0) → lp_MO_bounds_52 p1 p2 p3 p4 Q k (x5 + 1) s15))))
def wp_MO_bounds (p1 : Int32) (p2 : Int32) (p3 : Int32) (p4 : Int32) (σ : CS) (Q : Int32 → CS → Prop) : Prop := (wp_MO_isRange p1 p2 σ (fun r1 s2 => ((r1 = 0 → (wp_MO_fail 1 s2 (fun r4 s5 => Q r4 s5))) ∧ (¬ r1 = 0 → (wp_MO_isRange p3 p4 s2 (fun r6 s7 => ((r6 = 0 → (wp_MO_fail 1 s7 (fun r16 s17 => Q r16 s17))) ∧ (¬ r6 = 0 → (∀ s9 : CS, s9 = sI s7 5 0 → (∀ s10 : CS, s10 = sI s9 1 p1 → (∀ s11 : CS, s11 = sI s10 2 p2 → (∀ s12 : CS, s12 = sI s11 3 p3 → (∀ s13 : CS, s13 = sI s12 4 p4 → (∃ fu : Nat, lp_MO_bounds_52 p1 p2 p3 p4 Q fu 0 s13))))))))))))))
set_option maxHeartbeats 4000000 in
set_option maxRecDepth 100000 in
theorem c_MO_bounds {l : Launch} {D : va_G} {cs : CI} {am : Nat → Nat} (hi : aI am 25) {p1 : Int32} {p2 : Int32} {p3 : Int32} {p4 : Int32} {σ : CS} {Q : Int32 → CS → Prop} (hq : wp_MO_bounds p1 p2 p3 p4 σ Q) : Met l y_MO_bounds (.code y_MO_bounds b_MO_bounds 6 (some .int) :: wC) ({ frames := 2, cells := 0, slots := 0, locals := 43 }) (va_Pc [.ref (am 0), .int p1, .int p2, .int p3, .int p4] (mP D cs am σ)) (va_Qi Q (mP D cs am) (aK am 25)) 0 0 (aK am 25) := by
  refine Met.ofW (cc := b_MO_bounds) (maxL := 6) (ret := (some .int)) (by decide) rfl ?_
  intro p e s m args below meth c s₁ B hml hv
  obtain ⟨rfl, hP, hK, hN⟩ := hv
  have hx := B.exec
  have hb := B.bytes
  have hr := B.returns
  have hts := atoms_spec (ws := .code y_MO_bounds b_MO_bounds 6 (some .int) :: wC) B.pre
  have ht : ∀ w ∈ wC, w.before _ s = true := fun w h => hts w (List.mem_cons_of_mem _ h)
  have hown : s.vm.findClass R_MO = some m.cls := findClass_of_methodNamed B.named
  have hlocks := B.notSynchronized
  have hS : va_S (aK am 25) s.heap s.heap [] := va_S.rf
  have hl := lv_entry ([.ref (am 0), .int p1, .int p2, .int p3, .int p4]) (n := 6) (Nat.le_of_ble_eq_true rfl)
  rw [lg_entry_eq]
  generalize (lg_sl ([.ref (am 0), .int p1, .int p2, .int p3, .int p4]) ++ List.replicate (6 - (lg_sl ([.ref (am 0), .int p1, .int p2, .int p3, .int p4])).length) Slot.unset).toArray = ls at hl ⊢
  have hl : lv_has ls 6 [(0, .ref (am 0)), (1, .int p1), (2, .int p2), (3, .int p3), (4, .int p4)] := hl
  unfold wp_MO_bounds at hq
  have hh8 : 8 < 9 := by decide
  have loop_52 : ∀ (k : Nat) (x5 : Int32) (σ : CS) (H : Heap) (locs : List Loc) (ls : Array Slot), lp_MO_bounds_52 p1 p2 p3 p4 Q k x5 σ → va_P D clA (wd am (contM am cs σ) 25) H → va_S (aK am 25) s.heap H locs → lv_has ls 6 [(5, .int x5), (0, .ref (am 0)), (1, .int p1), (2, .int p2), (3, .int p3), (4, .int p4)] → W p l e (headSpec (.code y_MO_bounds b_MO_bounds 6 (some .int) :: wC) ({ frames := 2, cells := 0, slots := 0, locals := 43 })).room s m ([.ref (am 0), .int p1, .int p2, .int p3, .int p4] : List Value).toArray below meth c H locs 0 0 (MQ below (va_Qi Q (mP D cs am) (aK am 25)) ([.ref (am 0), .int p1, .int p2, .int p3, .int p4] : List Value).toArray s 0 0 (aK am 25)) (F0 m 52 ls []) := by
    intro k
    induction k with
    | zero => intro x5 σ H locs ls hq; exact hq.elim
    | succ k ih =>
      intro x5 σ H locs ls hq hP hS hl
      unfold lp_MO_bounds_52 at hq
      refine lv_iload hx hb d_MO_bounds_52 (lv_at hl 0 rfl) ?_
      refine lv_bipush (v := 25) hx hb d_MO_bounds_54 (by decide) ?_
      refine lv_icmp_ge (tgt := 73) hx hb d_MO_bounds_56 (by decide) (fun c14 => ?_) (fun c14 => ?_)
      · have hq := hq.1 c14
        refine lv_iload_n hx hb d_MO_bounds_73 rfl (lv_at hl 3 rfl) ?_
        refine lv_iload_n hx hb d_MO_bounds_74 rfl (lv_at hl 2 rfl) ?_
        refine lv_isub hx hb d_MO_bounds_75 ?_
        refine lv_iconst (v := 1) hx hb d_MO_bounds_76 (by decide) ?_
        refine lv_iadd hx hb d_MO_bounds_77 ?_
        refine lv_iload hx hb d_MO_bounds_78 (lv_at hl 5 rfl) ?_
        refine lv_iload_n hx hb d_MO_bounds_80 rfl (lv_at hl 4 rfl) ?_
        refine lv_isub hx hb d_MO_bounds_81 ?_
        refine lv_iconst (v := 1) hx hb d_MO_bounds_82 (by decide) ?_
        refine lv_iadd hx hb d_MO_bounds_83 ?_
        refine lv_imul hx hb d_MO_bounds_84 ?_
        exact W.iret hx hb hr (fun t ht hW => ⟨⟨(((p2 - p1) + 1) * ((p4 - p3) + 1)), σ, rfl, hq, by rw [ht]; exact hP, va_K.moved hW.alike hK, hN.warm hW⟩, hS.F ht⟩) hS.2.2 d_MO_bounds_85
      · have hq := hq.2 c14
        refine lv_aload_n hx hb d_MO_bounds_59 rfl (lv_at hl 1 rfl) ?_
        refine cw_get (C := R_MO) (T := F_MO) (N := 39) (v := .ref (am 9)) hx hb hts (in_MO _) hown hK hP 0 (by decide) rfl rfl 8 (by decide) (ht _ wC_690) rfl d_MO_bounds_60 ?_
        refine lv_iload hx hb d_MO_bounds_63 (lv_at hl 0 rfl) ?_
        refine lv_dconst0 hx hb d_MO_bounds_65 ?_
        refine cw_dast hx hb hK hP hi hS 9 (by decide) rfl 1 rfl hq.1 mpd_1 d_MO_bounds_66 (fun H locs hP hS => ?_)
        have hq := hq.2
        obtain ⟨s15, e_s15⟩ : ∃ z, z = sD σ 1 (vf_upd (gD σ 1) x5.toNatClampNeg FP.dconst0) := ⟨_, rfl⟩
        rw [← e_s15] at hP
        have hq := hq s15 e_s15
        refine lv_iinc (v := x5 + 1) (lv' := [(5, .int (x5 + 1)), (0, .ref (am 0)), (1, .int p1), (2, .int p2), (3, .int p3), (4, .int p4)]) hx hb d_MO_bounds_67 hl (k := 0) rfl rfl (by decide) rfl (fun ls hl => ?_)
        refine lv_goto (tgt := 52) hx hb d_MO_bounds_70 (by decide) ?_
        exact ih (x5 + 1) s15 _ _ ls hq hP hS (lv_sub hl [0, 1, 2, 3, 4, 5] rfl)
  refine lv_iload_n hx hb d_MO_bounds_0 rfl (lv_at hl 1 rfl) ?_
  refine lv_iload_n hx hb d_MO_bounds_1 rfl (lv_at hl 2 rfl) ?_
  refine va_calli (va_runS (As := [.int p1, .int p2]) (rest := []) ⟨hx, hb, hml, hown, hts⟩ (c_MO_isRange (D := D) (cs := cs) hi hq) (va_cwS 2 hts (good_S wC_831 wC_832 wC_50 wC_833) rfl rfl rfl (by decide +kernel) ⟨(show 1 + 1 ≤ 2 by omega), (show 8 + (2 + 11) + 22 ≤ 43 by omega)⟩) ⟨mP_blind, fun U hU hW => ⟨rfl, by rw [hU]; exact hP, va_K.moved hW.alike hK, hN.warm hW⟩⟩ rfl rfl hl.1 rfl (lv_room (Nat.le_of_ble_eq_true rfl)) d_MO_bounds_2 ⟨Nat.le_of_ble_eq_true rfl, Nat.le_of_ble_eq_true rfl⟩) hS (fun q _ h => h) (fun q h => h) (fun r1 s2 t H locs ht0 hvm hq hB hz1 hk1 hS => ?_)
  obtain ⟨hP, -, -⟩ := hB
  rw [ht0] at hP
  refine lv_if_eq (tgt := 17) hx hb d_MO_bounds_5 (by decide) (fun c3 => ?_) (fun c3 => ?_)
  · have hq := hq.1 c3
    refine lv_aload_n hx hb d_MO_bounds_17 rfl (lv_at hl 0 rfl) ?_
    refine lv_iconst (v := 1) hx hb d_MO_bounds_18 (by decide) ?_
    refine va_calli (va_runV (As := [.int 1]) (rest := []) ⟨hx, hb, hml, hown, hts⟩ (c_MO_fail (D := D) (cs := cs) hi hq) (cwV 1 hts (good_V wC_819 wC_821 wC_25 wC_50 wC_822) rfl rfl rfl (by decide +kernel) ⟨(show 0 + 1 ≤ 2 by omega), (show 8 + (2 + 11) + 0 ≤ 43 by omega)⟩) ⟨mP_blind, va_recv hK hP (ci := 5) (q0 := 0) rfl (wd_at (by decide) rfl), fun U hU hW => ⟨rfl, by rw [hU]; exact hP, va_K.moved hW.alike hK, hN.warm hW⟩⟩ rfl rfl hl.1 rfl (lv_room (Nat.le_of_ble_eq_true rfl)) d_MO_bounds_19 ⟨Nat.le_of_ble_eq_true rfl, Nat.le_of_ble_eq_true rfl⟩) hS (fun q _ h => h) (fun q h => h) (fun r4 s5 t H locs ht0 hvm hq hB hz1 hk1 hS => ?_)
    obtain ⟨hP, -, -⟩ := hB
    rw [ht0] at hP
    exact W.iret hx hb hr (fun t ht hW => ⟨⟨r4, s5, rfl, hq, by rw [ht]; exact hP, va_K.moved hW.alike hK, hN.warm hW⟩, hS.F ht⟩) hS.2.2 d_MO_bounds_22
  · have hq := hq.2 c3
    refine lv_iload_n hx hb d_MO_bounds_8 rfl (lv_at hl 3 rfl) ?_
    refine lv_iload hx hb d_MO_bounds_9 (lv_at hl 4 rfl) ?_
    refine va_calli (va_runS (As := [.int p3, .int p4]) (rest := []) ⟨hx, hb, hml, hown, hts⟩ (c_MO_isRange (D := D) (cs := cs) hi hq) (va_cwS 2 hts (good_S wC_831 wC_832 wC_50 wC_833) rfl rfl rfl (by decide +kernel) ⟨(show 1 + 1 ≤ 2 by omega), (show 8 + (2 + 11) + 22 ≤ 43 by omega)⟩) ⟨mP_blind, fun U hU hW => ⟨rfl, by rw [hU]; exact hP, va_K.moved hW.alike hK, hN.warm hW⟩⟩ rfl rfl hl.1 rfl (lv_room (Nat.le_of_ble_eq_true rfl)) d_MO_bounds_11 ⟨Nat.le_of_ble_eq_true rfl, Nat.le_of_ble_eq_true rfl⟩) hS (fun q _ h => h) (fun q h => h) (fun r6 s7 t H locs ht0 hvm hq hB hz1 hk1 hS => ?_)
    obtain ⟨hP, -, -⟩ := hB
    rw [ht0] at hP
    refine lv_if_ne (tgt := 23) hx hb d_MO_bounds_14 (by decide) (fun c8 => ?_) (fun c8 => ?_)
    · have hq := hq.2 c8
      refine lv_aload_n hx hb d_MO_bounds_23 rfl (lv_at hl 0 rfl) ?_
      refine lv_iconst (v := 0) hx hb d_MO_bounds_24 (by decide) ?_
      refine cw_put (C := R_MO) (T := F_MO) (N := 39) (ty := .int) (v := .int 0) hx hb hts (in_MO _) t_MO tok_MO n_MO hown hK hP hi hS 0 (by decide) rfl rfl 14 (by decide) (ht _ wC_696) rfl (by decide +kernel) rfl rfl (Nat.le_of_ble_eq_true rfl) up_MO_thrown d_MO_bounds_25 (fun H locs hP hS => ?_)
      obtain ⟨s9, e_s9⟩ : ∃ z, z = sI s7 5 0 := ⟨_, rfl⟩
      rw [← e_s9] at hP
      have hq := hq s9 e_s9
      refine lv_aload_n hx hb d_MO_bounds_28 rfl (lv_at hl 0 rfl) ?_
      refine lv_iload_n hx hb d_MO_bounds_29 rfl (lv_at hl 1 rfl) ?_
      refine cw_put (C := R_MO) (T := F_MO) (N := 39) (ty := .int) (v := .int p1) hx hb hts (in_MO _) t_MO tok_MO n_MO hown hK hP hi hS 0 (by decide) rfl rfl 10 (by decide) (ht _ wC_692) rfl (by decide +kernel) rfl rfl (Nat.le_of_ble_eq_true rfl) up_MO_low d_MO_bounds_30 (fun H locs hP hS => ?_)
      obtain ⟨s10, e_s10⟩ : ∃ z, z = sI s9 1 p1 := ⟨_, rfl⟩
      rw [← e_s10] at hP
      have hq := hq s10 e_s10
      refine lv_aload_n hx hb d_MO_bounds_33 rfl (lv_at hl 0 rfl) ?_
      refine lv_iload_n hx hb d_MO_bounds_34 rfl (lv_at hl 2 rfl) ?_
      refine cw_put (C := R_MO) (T := F_MO) (N := 39) (ty := .int) (v := .int p2) hx hb hts (in_MO _) t_MO tok_MO n_MO hown hK hP hi hS 0 (by decide) rfl rfl 11 (by decide) (ht _ wC_693) rfl (by decide +kernel) rfl rfl (Nat.le_of_ble_eq_true rfl) up_MO_high d_MO_bounds_35 (fun H locs hP hS => ?_)
      obtain ⟨s11, e_s11⟩ : ∃ z, z = sI s10 2 p2 := ⟨_, rfl⟩
      rw [← e_s11] at hP
      have hq := hq s11 e_s11
      refine lv_aload_n hx hb d_MO_bounds_38 rfl (lv_at hl 0 rfl) ?_
      refine lv_iload_n hx hb d_MO_bounds_39 rfl (lv_at hl 3 rfl) ?_
      refine cw_put (C := R_MO) (T := F_MO) (N := 39) (ty := .int) (v := .int p3) hx hb hts (in_MO _) t_MO tok_MO n_MO hown hK hP hi hS 0 (by decide) rfl rfl 12 (by decide) (ht _ wC_694) rfl (by decide +kernel) rfl rfl (Nat.le_of_ble_eq_true rfl) up_MO_low2 d_MO_bounds_40 (fun H locs hP hS => ?_)
      obtain ⟨s12, e_s12⟩ : ∃ z, z = sI s11 3 p3 := ⟨_, rfl⟩
      rw [← e_s12] at hP
      have hq := hq s12 e_s12
      refine lv_aload_n hx hb d_MO_bounds_43 rfl (lv_at hl 0 rfl) ?_
      refine lv_iload hx hb d_MO_bounds_44 (lv_at hl 4 rfl) ?_
      refine cw_put (C := R_MO) (T := F_MO) (N := 39) (ty := .int) (v := .int p4) hx hb hts (in_MO _) t_MO tok_MO n_MO hown hK hP hi hS 0 (by decide) rfl rfl 13 (by decide) (ht _ wC_695) rfl (by decide +kernel) rfl rfl (Nat.le_of_ble_eq_true rfl) up_MO_high2 d_MO_bounds_46 (fun H locs hP hS => ?_)
      obtain ⟨s13, e_s13⟩ : ∃ z, z = sI s12 4 p4 := ⟨_, rfl⟩
      rw [← e_s13] at hP
      have hq := hq s13 e_s13
      refine lv_iconst (v := 0) hx hb d_MO_bounds_49 (by decide) ?_
      refine lv_istore (lv' := [(5, .int 0), (0, .ref (am 0)), (1, .int p1), (2, .int p2), (3, .int p3), (4, .int p4)]) hx hb d_MO_bounds_50 hl (by decide) rfl (fun ls hl => ?_)
      obtain ⟨fu, hq⟩ := hq
      exact loop_52 fu 0 s13 _ _ ls hq hP hS (lv_sub hl [0, 1, 2, 3, 4, 5] rfl)
    · have hq := hq.1 c8
      refine lv_aload_n hx hb d_MO_bounds_17 rfl (lv_at hl 0 rfl) ?_
      refine lv_iconst (v := 1) hx hb d_MO_bounds_18 (by decide) ?_
      refine va_calli (va_runV (As := [.int 1]) (rest := []) ⟨hx, hb, hml, hown, hts⟩ (c_MO_fail (D := D) (cs := cs) hi hq) (cwV 1 hts (good_V wC_819 wC_821 wC_25 wC_50 wC_822) rfl rfl rfl (by decide +kernel) ⟨(show 0 + 1 ≤ 2 by omega), (show 8 + (2 + 11) + 0 ≤ 43 by omega)⟩) ⟨mP_blind, va_recv hK hP (ci := 5) (q0 := 0) rfl (wd_at (by decide) rfl), fun U hU hW => ⟨rfl, by rw [hU]; exact hP, va_K.moved hW.alike hK, hN.warm hW⟩⟩ rfl rfl hl.1 rfl (lv_room (Nat.le_of_ble_eq_true rfl)) d_MO_bounds_19 ⟨Nat.le_of_ble_eq_true rfl, Nat.le_of_ble_eq_true rfl⟩) hS (fun q _ h => h) (fun q h => h) (fun r16 s17 t H locs ht0 hvm hq hB hz1 hk1 hS => ?_)
      obtain ⟨hP, -, -⟩ := hB
      rw [ht0] at hP
      exact W.iret hx hb hr (fun t ht hW => ⟨⟨r16, s17, rfl, hq, by rw [ht]; exact hP, va_K.moved hW.alike hK, hN.warm hW⟩, hS.F ht⟩) hS.2.2 d_MO_bounds_22
def wp_MO_put (p1 : Int32) (p2 : UInt64) (σ : CS) (Q : UInt64 → CS → Prop) : Prop := (wp_MO_within p1 0 7 σ (fun r1 s2 => ((r1 = 0 → (∀ s4 : CS, s4 = sI s2 5 1 → (((gI s4 5) ≤ 0 → (vp_in p1 8 ∧ ((4 ≤ p1 → (vp_in p1 8 ∧ (∀ s7 : CS, s7 = sD s4 0 (vf_upd (gD s4 0) p1.toNatClampNeg p2) → Q (gD s4 0 p1.toNatClampNeg) s7))) ∧ (¬ 4 ≤ p1 → (wp_MO_round p2 s4 (fun r8 s9 => (vp_in p1 8 ∧ (∀ s10 : CS, s10 = sD s9 0 (vf_upd (gD s9 0) p1.toNatClampNeg r8) → Q (gD s4 0 p1.toNatClampNeg) s10)))))))) ∧ (¬ (gI s4 5) ≤ 0 → Q FP.dconst0 s4)))) ∧ (¬ r1 = 0 → (wp_MO_isGood p2 s2 (fun r11 s12 => ((r11 = 0 → (∀ s14 : CS, s14 = sI s12 5 1 → (((gI s14 5) ≤ 0 → (vp_in p1 8 ∧ ((4 ≤ p1 → (vp_in p1 8 ∧ (∀ s17 : CS, s17 = sD s14 0 (vf_upd (gD s14 0) p1.toNatClampNeg p2) → Q (gD s14 0 p1.toNatClampNeg) s17))) ∧ (¬ 4 ≤ p1 → (wp_MO_round p2 s14 (fun r18 s19 => (vp_in p1 8 ∧ (∀ s20 : CS, s20 = sD s19 0 (vf_upd (gD s19 0) p1.toNatClampNeg r18) → Q (gD s14 0 p1.toNatClampNeg) s20)))))))) ∧ (¬ (gI s14 5) ≤ 0 → Q FP.dconst0 s14)))) ∧ (¬ r11 = 0 → (∀ s21 : CS, s21 = sI s12 5 0 → (((gI s21 5) ≤ 0 → (vp_in p1 8 ∧ ((4 ≤ p1 → (vp_in p1 8 ∧ (∀ s24 : CS, s24 = sD s21 0 (vf_upd (gD s21 0) p1.toNatClampNeg p2) → Q (gD s21 0 p1.toNatClampNeg) s24))) ∧ (¬ 4 ≤ p1 → (wp_MO_round p2 s21 (fun r25 s26 => (vp_in p1 8 ∧ (∀ s27 : CS, s27 = sD s26 0 (vf_upd (gD s26 0) p1.toNatClampNeg r25) → Q (gD s21 0 p1.toNatClampNeg) s27)))))))) ∧ (¬ (gI s21 5) ≤ 0 → Q FP.dconst0 s21)))))))))))
set_option maxHeartbeats 4000000 in
set_option maxRecDepth 100000 in
theorem c_MO_put {l : Launch} {D : va_G} {cs : CI} {am : Nat → Nat} (hi : aI am 25) {p1 : Int32} {p2 : UInt64} {σ : CS} {Q : UInt64 → CS → Prop} (hq : wp_MO_put p1 p2 σ Q) : Met l y_MO_put (.code y_MO_put b_MO_put 6 (some .double) :: wC) ({ frames := 1, cells := 0, slots := 0, locals := 25 }) (va_Pc [.ref (am 0), .int p1, .double p2] (mP D cs am σ)) (va_Qd Q (mP D cs am) (aK am 25)) 0 0 (aK am 25) := by
  refine Met.ofW (cc := b_MO_put) (maxL := 6) (ret := (some .double)) (by decide) rfl ?_
  intro p e s m args below meth c s₁ B hml hv
  obtain ⟨rfl, hP, hK, hN⟩ := hv
  have hx := B.exec
  have hb := B.bytes
  have hr := B.returns
  have hts := atoms_spec (ws := .code y_MO_put b_MO_put 6 (some .double) :: wC) B.pre
  have ht : ∀ w ∈ wC, w.before _ s = true := fun w h => hts w (List.mem_cons_of_mem _ h)
  have hown : s.vm.findClass R_MO = some m.cls := findClass_of_methodNamed B.named
  have hlocks := B.notSynchronized
  have hS : va_S (aK am 25) s.heap s.heap [] := va_S.rf
  have hl := lv_entry ([.ref (am 0), .int p1, .double p2]) (n := 6) (Nat.le_of_ble_eq_true rfl)
  rw [lg_entry_eq]
  generalize (lg_sl ([.ref (am 0), .int p1, .double p2]) ++ List.replicate (6 - (lg_sl ([.ref (am 0), .int p1, .double p2])).length) Slot.unset).toArray = ls at hl ⊢
  have hl : lv_has ls 6 [(0, .ref (am 0)), (1, .int p1), (2, .double p2)] := hl
  unfold wp_MO_put at hq
  have hh8 : 8 < 9 := by decide
  refine lv_aload_n hx hb d_MO_put_0 rfl (lv_at hl 0 rfl) ?_
  refine lv_iload_n hx hb d_MO_put_1 rfl (lv_at hl 1 rfl) ?_
  refine lv_iconst (v := 0) hx hb d_MO_put_2 (by decide) ?_
  refine lv_bipush (v := 7) hx hb d_MO_put_3 (by decide) ?_
  refine va_calli (va_runS (As := [.int p1, .int 0, .int 7]) (rest := [.ref (am 0)]) ⟨hx, hb, hml, hown, hts⟩ (c_MO_within (D := D) (cs := cs) hi hq) (va_cwS 3 hts (good_S wC_812 wC_813 wC_50 wC_814) rfl rfl rfl (by decide +kernel) ⟨(show 0 + 1 ≤ 1 by omega), (show 8 + (3 + 11) + 0 ≤ 25 by omega)⟩) ⟨mP_blind, fun U hU hW => ⟨rfl, by rw [hU]; exact hP, va_K.moved hW.alike hK, hN.warm hW⟩⟩ rfl rfl hl.1 rfl (lv_room (Nat.le_of_ble_eq_true rfl)) d_MO_put_5 ⟨Nat.le_of_ble_eq_true rfl, Nat.le_of_ble_eq_true rfl⟩) hS (fun q _ h => h) (fun q h => h) (fun r1 s2 t H locs ht0 hvm hq hB hz1 hk1 hS => ?_)
  obtain ⟨hP, -, -⟩ := hB
  rw [ht0] at hP
  refine lv_if_eq (tgt := 22) hx hb d_MO_put_8 (by decide) (fun c3 => ?_) (fun c3 => ?_)
  · have hq := hq.1 c3
    refine lv_iconst (v := 1) hx hb d_MO_put_22 (by decide) ?_
    refine cw_put (C := R_MO) (T := F_MO) (N := 39) (ty := .int) (v := .int 1) hx hb hts (in_MO _) t_MO tok_MO n_MO hown hK hP hi hS 0 (by decide) rfl rfl 14 (by decide) (ht _ wC_696) rfl (by decide +kernel) rfl rfl (Nat.le_of_ble_eq_true rfl) up_MO_thrown d_MO_put_23 (fun H locs hP hS => ?_)
    obtain ⟨s4, e_s4⟩ : ∃ z, z = sI s2 5 1 := ⟨_, rfl⟩
    rw [← e_s4] at hP
    have hq := hq s4 e_s4
    refine lv_aload_n hx hb d_MO_put_26 rfl (lv_at hl 0 rfl) ?_
    refine cw_get (C := R_MO) (T := F_MO) (N := 39) (v := .int (gI s4 5)) hx hb hts (in_MO _) hown hK hP 0 (by decide) rfl rfl 14 (by decide) (ht _ wC_696) rfl d_MO_put_27 ?_
    refine lv_if_le (tgt := 35) hx hb d_MO_put_30 (by decide) (fun c5 => ?_) (fun c5 => ?_)
    · have hq := hq.1 c5
      refine lv_aload_n hx hb d_MO_put_35 rfl (lv_at hl 0 rfl) ?_
      refine cw_get (C := R_MO) (T := F_MO) (N := 39) (v := .ref (am 8)) hx hb hts (in_MO _) hown hK hP 0 (by decide) rfl rfl 7 (by decide) (ht _ wC_689) rfl d_MO_put_36 ?_
      refine lv_iload_n hx hb d_MO_put_39 rfl (lv_at hl 1 rfl) ?_
      refine cw_dald hx hb hK hP 8 (by decide) rfl 1 rfl hq.1 d_MO_put_40 ?_
      have hq := hq.2
      refine lv_dstore (lv' := [(4, .double (gD s4 0 p1.toNatClampNeg)), (0, .ref (am 0)), (1, .int p1), (2, .double p2)]) hx hb d_MO_put_41 hl (by decide) rfl (fun ls hl => ?_)
      refine lv_aload_n hx hb d_MO_put_43 rfl (lv_at hl 1 rfl) ?_
      refine cw_get (C := R_MO) (T := F_MO) (N := 39) (v := .ref (am 8)) hx hb hts (in_MO _) hown hK hP 0 (by decide) rfl rfl 7 (by decide) (ht _ wC_689) rfl d_MO_put_44 ?_
      refine lv_iload_n hx hb d_MO_put_47 rfl (lv_at hl 2 rfl) ?_
      refine lv_iload_n hx hb d_MO_put_48 rfl (lv_at hl 2 rfl) ?_
      refine lv_iconst (v := 4) hx hb d_MO_put_49 (by decide) ?_
      refine lv_icmp_ge (tgt := 60) hx hb d_MO_put_50 (by decide) (fun c6 => ?_) (fun c6 => ?_)
      · have hq := hq.1 c6
        refine lv_dload_n hx hb d_MO_put_60 rfl (lv_at hl 3 rfl) ?_
        refine cw_dast hx hb hK hP hi hS 8 (by decide) rfl 1 rfl hq.1 mpd_0 d_MO_put_61 (fun H locs hP hS => ?_)
        have hq := hq.2
        obtain ⟨s7, e_s7⟩ : ∃ z, z = sD s4 0 (vf_upd (gD s4 0) p1.toNatClampNeg p2) := ⟨_, rfl⟩
        rw [← e_s7] at hP
        have hq := hq s7 e_s7
        refine lv_dload hx hb d_MO_put_62 (lv_at hl 0 rfl) ?_
        exact W.dret hx hb hr (fun t ht hW => ⟨⟨(gD s4 0 p1.toNatClampNeg), s7, rfl, hq, by rw [ht]; exact hP, va_K.moved hW.alike hK, hN.warm hW⟩, hS.F ht⟩) hS.2.2 d_MO_put_64
      · have hq := hq.2 c6
        refine lv_dload_n hx hb d_MO_put_53 rfl (lv_at hl 3 rfl) ?_
        refine va_calld (va_runS (As := [.double p2]) (rest := [.int p1, .ref (am 8)]) ⟨hx, hb, hml, hown, hts⟩ (c_MO_round (D := D) (cs := cs) hi hq) (va_cwS 1 hts (good_S wC_843 wC_844 wC_50 wC_845) rfl rfl rfl (by decide +kernel) ⟨(show 0 + 1 ≤ 1 by omega), (show 8 + (6 + 11) + 0 ≤ 25 by omega)⟩) ⟨mP_blind, fun U hU hW => ⟨rfl, by rw [hU]; exact hP, va_K.moved hW.alike hK, hN.warm hW⟩⟩ rfl rfl hl.1 rfl (lv_room (Nat.le_of_ble_eq_true rfl)) d_MO_put_54 ⟨Nat.le_of_ble_eq_true rfl, Nat.le_of_ble_eq_true rfl⟩) hS (fun q _ h => h) (fun q h => h) (fun r8 s9 t H locs ht0 hvm hq hB hz1 hk1 hS => ?_)
        obtain ⟨hP, -, -⟩ := hB
        rw [ht0] at hP
        refine lv_goto (tgt := 61) hx hb d_MO_put_57 (by decide) ?_
        refine cw_dast hx hb hK hP hi hS 8 (by decide) rfl 1 rfl hq.1 mpd_0 d_MO_put_61 (fun H locs hP hS => ?_)
        have hq := hq.2
        obtain ⟨s10, e_s10⟩ : ∃ z, z = sD s9 0 (vf_upd (gD s9 0) p1.toNatClampNeg r8) := ⟨_, rfl⟩
        rw [← e_s10] at hP
        have hq := hq s10 e_s10
        refine lv_dload hx hb d_MO_put_62 (lv_at hl 0 rfl) ?_
        exact W.dret hx hb hr (fun t ht hW => ⟨⟨(gD s4 0 p1.toNatClampNeg), s10, rfl, hq, by rw [ht]; exact hP, va_K.moved hW.alike hK, hN.warm hW⟩, hS.F ht⟩) hS.2.2 d_MO_put_64
    · have hq := hq.2 c5
      refine lv_dconst0 hx hb d_MO_put_33 ?_
      exact W.dret hx hb hr (fun t ht hW => ⟨⟨FP.dconst0, s4, rfl, hq, by rw [ht]; exact hP, va_K.moved hW.alike hK, hN.warm hW⟩, hS.F ht⟩) hS.2.2 d_MO_put_34
  · have hq := hq.2 c3
    refine lv_dload_n hx hb d_MO_put_11 rfl (lv_at hl 2 rfl) ?_
    refine va_calli (va_runS (As := [.double p2]) (rest := [.ref (am 0)]) ⟨hx, hb, hml, hown, hts⟩ (c_MO_isGood (D := D) (cs := cs) hi hq) (va_cwS 1 hts (good_S wC_838 wC_839 wC_50 wC_840) rfl rfl rfl (by decide +kernel) ⟨(show 0 + 1 ≤ 1 by omega), (show 8 + (2 + 11) + 0 ≤ 25 by omega)⟩) ⟨mP_blind, fun U hU hW => ⟨rfl, by rw [hU]; exact hP, va_K.moved hW.alike hK, hN.warm hW⟩⟩ rfl rfl hl.1 rfl (lv_room (Nat.le_of_ble_eq_true rfl)) d_MO_put_12 ⟨Nat.le_of_ble_eq_true rfl, Nat.le_of_ble_eq_true rfl⟩) hS (fun q _ h => h) (fun q h => h) (fun r11 s12 t H locs ht0 hvm hq hB hz1 hk1 hS => ?_)
    obtain ⟨hP, -, -⟩ := hB
    rw [ht0] at hP
    refine lv_if_eq (tgt := 22) hx hb d_MO_put_15 (by decide) (fun c13 => ?_) (fun c13 => ?_)
    · have hq := hq.1 c13
      refine lv_iconst (v := 1) hx hb d_MO_put_22 (by decide) ?_
      refine cw_put (C := R_MO) (T := F_MO) (N := 39) (ty := .int) (v := .int 1) hx hb hts (in_MO _) t_MO tok_MO n_MO hown hK hP hi hS 0 (by decide) rfl rfl 14 (by decide) (ht _ wC_696) rfl (by decide +kernel) rfl rfl (Nat.le_of_ble_eq_true rfl) up_MO_thrown d_MO_put_23 (fun H locs hP hS => ?_)
      obtain ⟨s14, e_s14⟩ : ∃ z, z = sI s12 5 1 := ⟨_, rfl⟩
      rw [← e_s14] at hP
      have hq := hq s14 e_s14
      refine lv_aload_n hx hb d_MO_put_26 rfl (lv_at hl 0 rfl) ?_
      refine cw_get (C := R_MO) (T := F_MO) (N := 39) (v := .int (gI s14 5)) hx hb hts (in_MO _) hown hK hP 0 (by decide) rfl rfl 14 (by decide) (ht _ wC_696) rfl d_MO_put_27 ?_
      refine lv_if_le (tgt := 35) hx hb d_MO_put_30 (by decide) (fun c15 => ?_) (fun c15 => ?_)
      · have hq := hq.1 c15
        refine lv_aload_n hx hb d_MO_put_35 rfl (lv_at hl 0 rfl) ?_
        refine cw_get (C := R_MO) (T := F_MO) (N := 39) (v := .ref (am 8)) hx hb hts (in_MO _) hown hK hP 0 (by decide) rfl rfl 7 (by decide) (ht _ wC_689) rfl d_MO_put_36 ?_
        refine lv_iload_n hx hb d_MO_put_39 rfl (lv_at hl 1 rfl) ?_
        refine cw_dald hx hb hK hP 8 (by decide) rfl 1 rfl hq.1 d_MO_put_40 ?_
        have hq := hq.2
        refine lv_dstore (lv' := [(4, .double (gD s14 0 p1.toNatClampNeg)), (0, .ref (am 0)), (1, .int p1), (2, .double p2)]) hx hb d_MO_put_41 hl (by decide) rfl (fun ls hl => ?_)
        refine lv_aload_n hx hb d_MO_put_43 rfl (lv_at hl 1 rfl) ?_
        refine cw_get (C := R_MO) (T := F_MO) (N := 39) (v := .ref (am 8)) hx hb hts (in_MO _) hown hK hP 0 (by decide) rfl rfl 7 (by decide) (ht _ wC_689) rfl d_MO_put_44 ?_
        refine lv_iload_n hx hb d_MO_put_47 rfl (lv_at hl 2 rfl) ?_
        refine lv_iload_n hx hb d_MO_put_48 rfl (lv_at hl 2 rfl) ?_
        refine lv_iconst (v := 4) hx hb d_MO_put_49 (by decide) ?_
        refine lv_icmp_ge (tgt := 60) hx hb d_MO_put_50 (by decide) (fun c16 => ?_) (fun c16 => ?_)
        · have hq := hq.1 c16
          refine lv_dload_n hx hb d_MO_put_60 rfl (lv_at hl 3 rfl) ?_
          refine cw_dast hx hb hK hP hi hS 8 (by decide) rfl 1 rfl hq.1 mpd_0 d_MO_put_61 (fun H locs hP hS => ?_)
          have hq := hq.2
          obtain ⟨s17, e_s17⟩ : ∃ z, z = sD s14 0 (vf_upd (gD s14 0) p1.toNatClampNeg p2) := ⟨_, rfl⟩
          rw [← e_s17] at hP
          have hq := hq s17 e_s17
          refine lv_dload hx hb d_MO_put_62 (lv_at hl 0 rfl) ?_
          exact W.dret hx hb hr (fun t ht hW => ⟨⟨(gD s14 0 p1.toNatClampNeg), s17, rfl, hq, by rw [ht]; exact hP, va_K.moved hW.alike hK, hN.warm hW⟩, hS.F ht⟩) hS.2.2 d_MO_put_64
        · have hq := hq.2 c16
          refine lv_dload_n hx hb d_MO_put_53 rfl (lv_at hl 3 rfl) ?_
          refine va_calld (va_runS (As := [.double p2]) (rest := [.int p1, .ref (am 8)]) ⟨hx, hb, hml, hown, hts⟩ (c_MO_round (D := D) (cs := cs) hi hq) (va_cwS 1 hts (good_S wC_843 wC_844 wC_50 wC_845) rfl rfl rfl (by decide +kernel) ⟨(show 0 + 1 ≤ 1 by omega), (show 8 + (6 + 11) + 0 ≤ 25 by omega)⟩) ⟨mP_blind, fun U hU hW => ⟨rfl, by rw [hU]; exact hP, va_K.moved hW.alike hK, hN.warm hW⟩⟩ rfl rfl hl.1 rfl (lv_room (Nat.le_of_ble_eq_true rfl)) d_MO_put_54 ⟨Nat.le_of_ble_eq_true rfl, Nat.le_of_ble_eq_true rfl⟩) hS (fun q _ h => h) (fun q h => h) (fun r18 s19 t H locs ht0 hvm hq hB hz1 hk1 hS => ?_)
          obtain ⟨hP, -, -⟩ := hB
          rw [ht0] at hP
          refine lv_goto (tgt := 61) hx hb d_MO_put_57 (by decide) ?_
          refine cw_dast hx hb hK hP hi hS 8 (by decide) rfl 1 rfl hq.1 mpd_0 d_MO_put_61 (fun H locs hP hS => ?_)
          have hq := hq.2
          obtain ⟨s20, e_s20⟩ : ∃ z, z = sD s19 0 (vf_upd (gD s19 0) p1.toNatClampNeg r18) := ⟨_, rfl⟩
          rw [← e_s20] at hP
          have hq := hq s20 e_s20
          refine lv_dload hx hb d_MO_put_62 (lv_at hl 0 rfl) ?_
          exact W.dret hx hb hr (fun t ht hW => ⟨⟨(gD s14 0 p1.toNatClampNeg), s20, rfl, hq, by rw [ht]; exact hP, va_K.moved hW.alike hK, hN.warm hW⟩, hS.F ht⟩) hS.2.2 d_MO_put_64
      · have hq := hq.2 c15
        refine lv_dconst0 hx hb d_MO_put_33 ?_
        exact W.dret hx hb hr (fun t ht hW => ⟨⟨FP.dconst0, s14, rfl, hq, by rw [ht]; exact hP, va_K.moved hW.alike hK, hN.warm hW⟩, hS.F ht⟩) hS.2.2 d_MO_put_34
    · have hq := hq.2 c13
      refine lv_iconst (v := 0) hx hb d_MO_put_18 (by decide) ?_
      refine lv_goto (tgt := 23) hx hb d_MO_put_19 (by decide) ?_
      refine cw_put (C := R_MO) (T := F_MO) (N := 39) (ty := .int) (v := .int 0) hx hb hts (in_MO _) t_MO tok_MO n_MO hown hK hP hi hS 0 (by decide) rfl rfl 14 (by decide) (ht _ wC_696) rfl (by decide +kernel) rfl rfl (Nat.le_of_ble_eq_true rfl) up_MO_thrown d_MO_put_23 (fun H locs hP hS => ?_)
      obtain ⟨s21, e_s21⟩ : ∃ z, z = sI s12 5 0 := ⟨_, rfl⟩
      rw [← e_s21] at hP
      have hq := hq s21 e_s21
      refine lv_aload_n hx hb d_MO_put_26 rfl (lv_at hl 0 rfl) ?_
      refine cw_get (C := R_MO) (T := F_MO) (N := 39) (v := .int (gI s21 5)) hx hb hts (in_MO _) hown hK hP 0 (by decide) rfl rfl 14 (by decide) (ht _ wC_696) rfl d_MO_put_27 ?_
      refine lv_if_le (tgt := 35) hx hb d_MO_put_30 (by decide) (fun c22 => ?_) (fun c22 => ?_)
      · have hq := hq.1 c22
        refine lv_aload_n hx hb d_MO_put_35 rfl (lv_at hl 0 rfl) ?_
        refine cw_get (C := R_MO) (T := F_MO) (N := 39) (v := .ref (am 8)) hx hb hts (in_MO _) hown hK hP 0 (by decide) rfl rfl 7 (by decide) (ht _ wC_689) rfl d_MO_put_36 ?_
        refine lv_iload_n hx hb d_MO_put_39 rfl (lv_at hl 1 rfl) ?_
        refine cw_dald hx hb hK hP 8 (by decide) rfl 1 rfl hq.1 d_MO_put_40 ?_
        have hq := hq.2
        refine lv_dstore (lv' := [(4, .double (gD s21 0 p1.toNatClampNeg)), (0, .ref (am 0)), (1, .int p1), (2, .double p2)]) hx hb d_MO_put_41 hl (by decide) rfl (fun ls hl => ?_)
        refine lv_aload_n hx hb d_MO_put_43 rfl (lv_at hl 1 rfl) ?_
        refine cw_get (C := R_MO) (T := F_MO) (N := 39) (v := .ref (am 8)) hx hb hts (in_MO _) hown hK hP 0 (by decide) rfl rfl 7 (by decide) (ht _ wC_689) rfl d_MO_put_44 ?_
        refine lv_iload_n hx hb d_MO_put_47 rfl (lv_at hl 2 rfl) ?_
        refine lv_iload_n hx hb d_MO_put_48 rfl (lv_at hl 2 rfl) ?_
        refine lv_iconst (v := 4) hx hb d_MO_put_49 (by decide) ?_
        refine lv_icmp_ge (tgt := 60) hx hb d_MO_put_50 (by decide) (fun c23 => ?_) (fun c23 => ?_)
        · have hq := hq.1 c23
          refine lv_dload_n hx hb d_MO_put_60 rfl (lv_at hl 3 rfl) ?_
          refine cw_dast hx hb hK hP hi hS 8 (by decide) rfl 1 rfl hq.1 mpd_0 d_MO_put_61 (fun H locs hP hS => ?_)
          have hq := hq.2
          obtain ⟨s24, e_s24⟩ : ∃ z, z = sD s21 0 (vf_upd (gD s21 0) p1.toNatClampNeg p2) := ⟨_, rfl⟩
          rw [← e_s24] at hP
          have hq := hq s24 e_s24
          refine lv_dload hx hb d_MO_put_62 (lv_at hl 0 rfl) ?_
          exact W.dret hx hb hr (fun t ht hW => ⟨⟨(gD s21 0 p1.toNatClampNeg), s24, rfl, hq, by rw [ht]; exact hP, va_K.moved hW.alike hK, hN.warm hW⟩, hS.F ht⟩) hS.2.2 d_MO_put_64
        · have hq := hq.2 c23
          refine lv_dload_n hx hb d_MO_put_53 rfl (lv_at hl 3 rfl) ?_
          refine va_calld (va_runS (As := [.double p2]) (rest := [.int p1, .ref (am 8)]) ⟨hx, hb, hml, hown, hts⟩ (c_MO_round (D := D) (cs := cs) hi hq) (va_cwS 1 hts (good_S wC_843 wC_844 wC_50 wC_845) rfl rfl rfl (by decide +kernel) ⟨(show 0 + 1 ≤ 1 by omega), (show 8 + (6 + 11) + 0 ≤ 25 by omega)⟩) ⟨mP_blind, fun U hU hW => ⟨rfl, by rw [hU]; exact hP, va_K.moved hW.alike hK, hN.warm hW⟩⟩ rfl rfl hl.1 rfl (lv_room (Nat.le_of_ble_eq_true rfl)) d_MO_put_54 ⟨Nat.le_of_ble_eq_true rfl, Nat.le_of_ble_eq_true rfl⟩) hS (fun q _ h => h) (fun q h => h) (fun r25 s26 t H locs ht0 hvm hq hB hz1 hk1 hS => ?_)
          obtain ⟨hP, -, -⟩ := hB
          rw [ht0] at hP
          refine lv_goto (tgt := 61) hx hb d_MO_put_57 (by decide) ?_
          refine cw_dast hx hb hK hP hi hS 8 (by decide) rfl 1 rfl hq.1 mpd_0 d_MO_put_61 (fun H locs hP hS => ?_)
          have hq := hq.2
          obtain ⟨s27, e_s27⟩ : ∃ z, z = sD s26 0 (vf_upd (gD s26 0) p1.toNatClampNeg r25) := ⟨_, rfl⟩
          rw [← e_s27] at hP
          have hq := hq s27 e_s27
          refine lv_dload hx hb d_MO_put_62 (lv_at hl 0 rfl) ?_
          exact W.dret hx hb hr (fun t ht hW => ⟨⟨(gD s21 0 p1.toNatClampNeg), s27, rfl, hq, by rw [ht]; exact hP, va_K.moved hW.alike hK, hN.warm hW⟩, hS.F ht⟩) hS.2.2 d_MO_put_64
      · have hq := hq.2 c22
        refine lv_dconst0 hx hb d_MO_put_33 ?_
        exact W.dret hx hb hr (fun t ht hW => ⟨⟨FP.dconst0, s21, rfl, hq, by rw [ht]; exact hP, va_K.moved hW.alike hK, hN.warm hW⟩, hS.F ht⟩) hS.2.2 d_MO_put_34
def lp_MO_work_71 (p1 : Int32) (Q : UInt64 → CS → Prop) : Nat → Int32 → CS → Prop
  | 0 => fun _ _ => False
  | k + 1 => fun x2 σ => (((gI σ 8) ≤ 0 → (((gI σ 10) = 0 → (∀ s35 : CS, s35 = sI σ 5 0 → (((gI s35 10) = 0 → Q (gX s35 0) s35) ∧ (¬ (gI s35 10) = 0 → Q FP.dconst0 s35)))) ∧ (¬ (gI σ 10) = 0 → ((3 ≤ (gI σ 10) → (((gI σ 10) = 3 → (∀ s31 : CS, s31 = sI σ 5 3 → (((gI s31 10) = 0 → Q (gX s31 0) s31) ∧ (¬ (gI s31 10) = 0 → Q FP.dconst0 s31)))) ∧ (¬ (gI σ 10) = 3 → (((gI σ 10) = 4 → (∀ s21 : CS, s21 = sI σ 5 4 → (((gI s21 10) = 0 → Q (gX s21 0) s21) ∧ (¬ (gI s21 10) = 0 → Q FP.dconst0 s21)))) ∧ (¬ (gI σ 10) = 4 → (((gI σ 10) = 6 → (∀ s29 : CS, s29 = sI σ 5 4 → (((gI s29 10) = 0 → Q (gX s29 0) s29) ∧ (¬ (gI s29 10) = 0 → Q FP.dconst0 s29)))) ∧ (¬ (gI σ 10) = 6 → (((gI σ 10) = 5 → (∀ s27 : CS, s27 = sI σ 5 5 → (((gI s27 10) = 0 → Q (gX s27 0) s27) ∧ (¬ (gI s27 10) = 0 → Q FP.dconst0 s27)))) ∧ (¬ (gI σ 10) = 5 → (∀ s25 : CS, s25 = sI σ 5 6 → (((gI s25 10) = 0 → Q (gX s25 0) s25) ∧ (¬ (gI s25 10) = 0 → Q FP.dconst0 s25)))))))))))) ∧ (¬ 3 ≤ (gI σ 10) → (∀ s33 : CS, s33 = sI σ 5 2 → (((gI s33 10) = 0 → Q (gX s33 0) s33) ∧ (¬ (gI s33 10) = 0 → Q FP.dconst0 s33)))))))) ∧ (¬ (gI σ 8) ≤ 0 → (((gI σ 10) = 0 → (wp_MO_step  σ (fun s59 => lp_MO_work_71 p1 Q k x2 s59))) ∧ (¬ (gI σ 10) = 0 → (((gI σ 10) = 0 → (∀ s56 : CS, s56 = sI σ 5 0 → (((gI s56 10) = 0 → Q (gX s56 0) s56) ∧ (¬ (gI s56 10) = 0 → Q FP.dconst0 s56)))) ∧ (¬ (gI σ 10) = 0 → ((3 ≤ (gI σ 10) → (((gI σ 10) = 3 → (∀ s52 : CS, s52 = sI σ 5 3 → (((gI s52 10) = 0 → Q (gX s52 0) s52) ∧ (¬ (gI s52 10) = 0 → Q FP.dconst0 s52)))) ∧ (¬ (gI σ 10) = 3 → (((gI σ 10) = 4 → (∀ s42 : CS, s42 = sI σ 5 4 → (((gI s42 10) = 0 → Q (gX s42 0) s42) ∧ (¬ (gI s42 10) = 0 → Q FP.dconst0 s42)))) ∧ (¬ (gI σ 10) = 4 → (((gI σ 10) = 6 → (∀ s50 : CS, s50 = sI σ 5 4 → (((gI s50 10) = 0 → Q (gX s50 0) s50) ∧ (¬ (gI s50 10) = 0 → Q FP.dconst0 s50)))) ∧ (¬ (gI σ 10) = 6 → (((gI σ 10) = 5 → (∀ s48 : CS, s48 = sI σ 5 5 → (((gI s48 10) = 0 → Q (gX s48 0) s48) ∧ (¬ (gI s48 10) = 0 → Q FP.dconst0 s48)))) ∧ (¬ (gI σ 10) = 5 → (∀ s46 : CS, s46 = sI σ 5 6 → (((gI s46 10) = 0 → Q (gX s46 0) s46) ∧ (¬ (gI s46 10) = 0 → Q FP.dconst0 s46)))))))))))) ∧ (¬ 3 ≤ (gI σ 10) → (∀ s54 : CS, s54 = sI σ 5 2 → (((gI s54 10) = 0 → Q (gX s54 0) s54) ∧ (¬ (gI s54 10) = 0 → Q FP.dconst0 s54)))))))))))
def wp_MO_work (p1 : Int32) (σ : CS) (Q : UInt64 → CS → Prop) : Prop := (wp_MO_isNode p1 σ (fun r1 s2 => ((r1 = 0 → (∀ s4 : CS, s4 = sI s2 5 1 → ((r1 = 0 → Q FP.dconst0 s4) ∧ (¬ r1 = 0 → (∀ s6 : CS, s6 = sI s4 8 0 → (∀ s7 : CS, s7 = sI s6 9 0 → (∀ s8 : CS, s8 = sI s7 10 0 → (∀ s9 : CS, s9 = sI s8 11 0 → (∀ s10 : CS, s10 = sI s9 12 0 → (∀ s11 : CS, s11 = sI s10 13 0 → (∀ s12 : CS, s12 = sI s11 7 0 → (∀ s13 : CS, s13 = sI s12 6 0 → (wp_MO_enter p1 0 s13 (fun s15 => (∃ fu : Nat, lp_MO_work_71 p1 Q fu r1 s15))))))))))))))) ∧ (¬ r1 = 0 → (∀ s60 : CS, s60 = sI s2 5 0 → ((r1 = 0 → Q FP.dconst0 s60) ∧ (¬ r1 = 0 → (∀ s62 : CS, s62 = sI s60 8 0 → (∀ s63 : CS, s63 = sI s62 9 0 → (∀ s64 : CS, s64 = sI s63 10 0 → (∀ s65 : CS, s65 = sI s64 11 0 → (∀ s66 : CS, s66 = sI s65 12 0 → (∀ s67 : CS, s67 = sI s66 13 0 → (∀ s68 : CS, s68 = sI s67 7 0 → (∀ s69 : CS, s69 = sI s68 6 0 → (wp_MO_enter p1 0 s69 (fun s71 => (∃ fu : Nat, lp_MO_work_71 p1 Q fu r1 s71))))))))))))))))))
set_option maxHeartbeats 4000000 in
set_option maxRecDepth 100000 in
theorem c_MO_work {l : Launch} {D : va_G} {cs : CI} {am : Nat → Nat} (hi : aI am 25) {p1 : Int32} {σ : CS} {Q : UInt64 → CS → Prop} (hq : wp_MO_work p1 σ Q) : Met l y_MO_work (.code y_MO_work b_MO_work 3 (some .double) :: wC) ({ frames := 5, cells := 0, slots := 0, locals := 112 }) (va_Pc [.ref (am 0), .int p1] (mP D cs am σ)) (va_Qd Q (mP D cs am) (aK am 25)) 0 0 (aK am 25) := by
  refine Met.ofW (cc := b_MO_work) (maxL := 3) (ret := (some .double)) (by decide) rfl ?_
  intro p e s m args below meth c s₁ B hml hv
  obtain ⟨rfl, hP, hK, hN⟩ := hv
  have hx := B.exec
  have hb := B.bytes
  have hr := B.returns
  have hts := atoms_spec (ws := .code y_MO_work b_MO_work 3 (some .double) :: wC) B.pre
  have ht : ∀ w ∈ wC, w.before _ s = true := fun w h => hts w (List.mem_cons_of_mem _ h)
  have hown : s.vm.findClass R_MO = some m.cls := findClass_of_methodNamed B.named
  have hlocks := B.notSynchronized
  have hS : va_S (aK am 25) s.heap s.heap [] := va_S.rf
  have hl := lv_entry ([.ref (am 0), .int p1]) (n := 3) (Nat.le_of_ble_eq_true rfl)
  rw [lg_entry_eq]
  generalize (lg_sl ([.ref (am 0), .int p1]) ++ List.replicate (3 - (lg_sl ([.ref (am 0), .int p1])).length) Slot.unset).toArray = ls at hl ⊢
  have hl : lv_has ls 3 [(0, .ref (am 0)), (1, .int p1)] := hl
  unfold wp_MO_work at hq
  have hh8 : 8 < 9 := by decide
  have loop_71 : ∀ (k : Nat) (x2 : Int32) (σ : CS) (H : Heap) (locs : List Loc) (ls : Array Slot), lp_MO_work_71 p1 Q k x2 σ → va_P D clA (wd am (contM am cs σ) 25) H → va_S (aK am 25) s.heap H locs → lv_has ls 3 [(2, .int x2), (0, .ref (am 0)), (1, .int p1)] → W p l e (headSpec (.code y_MO_work b_MO_work 3 (some .double) :: wC) ({ frames := 5, cells := 0, slots := 0, locals := 112 })).room s m ([.ref (am 0), .int p1] : List Value).toArray below meth c H locs 0 0 (MQ below (va_Qd Q (mP D cs am) (aK am 25)) ([.ref (am 0), .int p1] : List Value).toArray s 0 0 (aK am 25)) (F0 m 71 ls []) := by
    intro k
    induction k with
    | zero => intro x2 σ H locs ls hq; exact hq.elim
    | succ k ih =>
      intro x2 σ H locs ls hq hP hS hl
      unfold lp_MO_work_71 at hq
      refine lv_aload_n hx hb d_MO_work_71 rfl (lv_at hl 1 rfl) ?_
      refine cw_get (C := R_MO) (T := F_MO) (N := 39) (v := .int (gI σ 8)) hx hb hts (in_MO _) hown hK hP 0 (by decide) rfl rfl 32 (by decide) (ht _ wC_714) rfl d_MO_work_72 ?_
      refine lv_if_le (tgt := 92) hx hb d_MO_work_75 (by decide) (fun c16 => ?_) (fun c16 => ?_)
      · have hq := hq.1 c16
        refine lv_aload_n hx hb d_MO_work_92 rfl (lv_at hl 1 rfl) ?_
        refine lv_aload_n hx hb d_MO_work_93 rfl (lv_at hl 1 rfl) ?_
        refine cw_get (C := R_MO) (T := F_MO) (N := 39) (v := .int (gI σ 10)) hx hb hts (in_MO _) hown hK hP 0 (by decide) rfl rfl 34 (by decide) (ht _ wC_716) rfl d_MO_work_94 ?_
        refine lv_if_ne (tgt := 104) hx hb d_MO_work_97 (by decide) (fun c17 => ?_) (fun c17 => ?_)
        · have hq := hq.2 c17
          refine lv_aload_n hx hb d_MO_work_104 rfl (lv_at hl 1 rfl) ?_
          refine cw_get (C := R_MO) (T := F_MO) (N := 39) (v := .int (gI σ 10)) hx hb hts (in_MO _) hown hK hP 0 (by decide) rfl rfl 34 (by decide) (ht _ wC_716) rfl d_MO_work_105 ?_
          refine lv_iconst (v := 3) hx hb d_MO_work_108 (by decide) ?_
          refine lv_icmp_ge (tgt := 116) hx hb d_MO_work_109 (by decide) (fun c18 => ?_) (fun c18 => ?_)
          · have hq := hq.1 c18
            refine lv_aload_n hx hb d_MO_work_116 rfl (lv_at hl 1 rfl) ?_
            refine cw_get (C := R_MO) (T := F_MO) (N := 39) (v := .int (gI σ 10)) hx hb hts (in_MO _) hown hK hP 0 (by decide) rfl rfl 34 (by decide) (ht _ wC_716) rfl d_MO_work_117 ?_
            refine lv_iconst (v := 3) hx hb d_MO_work_120 (by decide) ?_
            refine lv_icmp_ne (tgt := 128) hx hb d_MO_work_121 (by decide) (fun c19 => ?_) (fun c19 => ?_)
            · have hq := hq.2 c19
              refine lv_aload_n hx hb d_MO_work_128 rfl (lv_at hl 1 rfl) ?_
              refine cw_get (C := R_MO) (T := F_MO) (N := 39) (v := .int (gI σ 10)) hx hb hts (in_MO _) hown hK hP 0 (by decide) rfl rfl 34 (by decide) (ht _ wC_716) rfl d_MO_work_129 ?_
              refine lv_iconst (v := 4) hx hb d_MO_work_132 (by decide) ?_
              refine lv_icmp_eq (tgt := 145) hx hb d_MO_work_133 (by decide) (fun c20 => ?_) (fun c20 => ?_)
              · have hq := hq.1 c20
                refine lv_iconst (v := 4) hx hb d_MO_work_145 (by decide) ?_
                refine lv_goto (tgt := 163) hx hb d_MO_work_146 (by decide) ?_
                refine cw_put (C := R_MO) (T := F_MO) (N := 39) (ty := .int) (v := .int 4) hx hb hts (in_MO _) t_MO tok_MO n_MO hown hK hP hi hS 0 (by decide) rfl rfl 14 (by decide) (ht _ wC_696) rfl (by decide +kernel) rfl rfl (Nat.le_of_ble_eq_true rfl) up_MO_thrown d_MO_work_163 (fun H locs hP hS => ?_)
                obtain ⟨s21, e_s21⟩ : ∃ z, z = sI σ 5 4 := ⟨_, rfl⟩
                rw [← e_s21] at hP
                have hq := hq s21 e_s21
                refine lv_aload_n hx hb d_MO_work_166 rfl (lv_at hl 1 rfl) ?_
                refine cw_get (C := R_MO) (T := F_MO) (N := 39) (v := .int (gI s21 10)) hx hb hts (in_MO _) hown hK hP 0 (by decide) rfl rfl 34 (by decide) (ht _ wC_716) rfl d_MO_work_167 ?_
                refine lv_if_ne (tgt := 180) hx hb d_MO_work_170 (by decide) (fun c22 => ?_) (fun c22 => ?_)
                · have hq := hq.2 c22
                  refine lv_dconst0 hx hb d_MO_work_180 ?_
                  exact W.dret hx hb hr (fun t ht hW => ⟨⟨FP.dconst0, s21, rfl, hq, by rw [ht]; exact hP, va_K.moved hW.alike hK, hN.warm hW⟩, hS.F ht⟩) hS.2.2 d_MO_work_181
                · have hq := hq.1 c22
                  refine lv_aload_n hx hb d_MO_work_173 rfl (lv_at hl 1 rfl) ?_
                  refine cw_get (C := R_MO) (T := F_MO) (N := 39) (v := .double (gX s21 0)) hx hb hts (in_MO _) hown hK hP 0 (by decide) rfl rfl 38 (by decide) (ht _ wC_720) rfl d_MO_work_174 ?_
                  refine lv_goto (tgt := 181) hx hb d_MO_work_177 (by decide) ?_
                  exact W.dret hx hb hr (fun t ht hW => ⟨⟨(gX s21 0), s21, rfl, hq, by rw [ht]; exact hP, va_K.moved hW.alike hK, hN.warm hW⟩, hS.F ht⟩) hS.2.2 d_MO_work_181
              · have hq := hq.2 c20
                refine lv_aload_n hx hb d_MO_work_136 rfl (lv_at hl 1 rfl) ?_
                refine cw_get (C := R_MO) (T := F_MO) (N := 39) (v := .int (gI σ 10)) hx hb hts (in_MO _) hown hK hP 0 (by decide) rfl rfl 34 (by decide) (ht _ wC_716) rfl d_MO_work_137 ?_
                refine lv_bipush (v := 6) hx hb d_MO_work_140 (by decide) ?_
                refine lv_icmp_ne (tgt := 149) hx hb d_MO_work_142 (by decide) (fun c23 => ?_) (fun c23 => ?_)
                · have hq := hq.2 c23
                  refine lv_aload_n hx hb d_MO_work_149 rfl (lv_at hl 1 rfl) ?_
                  refine cw_get (C := R_MO) (T := F_MO) (N := 39) (v := .int (gI σ 10)) hx hb hts (in_MO _) hown hK hP 0 (by decide) rfl rfl 34 (by decide) (ht _ wC_716) rfl d_MO_work_150 ?_
                  refine lv_iconst (v := 5) hx hb d_MO_work_153 (by decide) ?_
                  refine lv_icmp_ne (tgt := 161) hx hb d_MO_work_154 (by decide) (fun c24 => ?_) (fun c24 => ?_)
                  · have hq := hq.2 c24
                    refine lv_bipush (v := 6) hx hb d_MO_work_161 (by decide) ?_
                    refine cw_put (C := R_MO) (T := F_MO) (N := 39) (ty := .int) (v := .int 6) hx hb hts (in_MO _) t_MO tok_MO n_MO hown hK hP hi hS 0 (by decide) rfl rfl 14 (by decide) (ht _ wC_696) rfl (by decide +kernel) rfl rfl (Nat.le_of_ble_eq_true rfl) up_MO_thrown d_MO_work_163 (fun H locs hP hS => ?_)
                    obtain ⟨s25, e_s25⟩ : ∃ z, z = sI σ 5 6 := ⟨_, rfl⟩
                    rw [← e_s25] at hP
                    have hq := hq s25 e_s25
                    refine lv_aload_n hx hb d_MO_work_166 rfl (lv_at hl 1 rfl) ?_
                    refine cw_get (C := R_MO) (T := F_MO) (N := 39) (v := .int (gI s25 10)) hx hb hts (in_MO _) hown hK hP 0 (by decide) rfl rfl 34 (by decide) (ht _ wC_716) rfl d_MO_work_167 ?_
                    refine lv_if_ne (tgt := 180) hx hb d_MO_work_170 (by decide) (fun c26 => ?_) (fun c26 => ?_)
                    · have hq := hq.2 c26
                      refine lv_dconst0 hx hb d_MO_work_180 ?_
                      exact W.dret hx hb hr (fun t ht hW => ⟨⟨FP.dconst0, s25, rfl, hq, by rw [ht]; exact hP, va_K.moved hW.alike hK, hN.warm hW⟩, hS.F ht⟩) hS.2.2 d_MO_work_181
                    · have hq := hq.1 c26
                      refine lv_aload_n hx hb d_MO_work_173 rfl (lv_at hl 1 rfl) ?_
                      refine cw_get (C := R_MO) (T := F_MO) (N := 39) (v := .double (gX s25 0)) hx hb hts (in_MO _) hown hK hP 0 (by decide) rfl rfl 38 (by decide) (ht _ wC_720) rfl d_MO_work_174 ?_
                      refine lv_goto (tgt := 181) hx hb d_MO_work_177 (by decide) ?_
                      exact W.dret hx hb hr (fun t ht hW => ⟨⟨(gX s25 0), s25, rfl, hq, by rw [ht]; exact hP, va_K.moved hW.alike hK, hN.warm hW⟩, hS.F ht⟩) hS.2.2 d_MO_work_181
                  · have hq := hq.1 c24
                    refine lv_iconst (v := 5) hx hb d_MO_work_157 (by decide) ?_
                    refine lv_goto (tgt := 163) hx hb d_MO_work_158 (by decide) ?_
                    refine cw_put (C := R_MO) (T := F_MO) (N := 39) (ty := .int) (v := .int 5) hx hb hts (in_MO _) t_MO tok_MO n_MO hown hK hP hi hS 0 (by decide) rfl rfl 14 (by decide) (ht _ wC_696) rfl (by decide +kernel) rfl rfl (Nat.le_of_ble_eq_true rfl) up_MO_thrown d_MO_work_163 (fun H locs hP hS => ?_)
                    obtain ⟨s27, e_s27⟩ : ∃ z, z = sI σ 5 5 := ⟨_, rfl⟩
                    rw [← e_s27] at hP
                    have hq := hq s27 e_s27
                    refine lv_aload_n hx hb d_MO_work_166 rfl (lv_at hl 1 rfl) ?_
                    refine cw_get (C := R_MO) (T := F_MO) (N := 39) (v := .int (gI s27 10)) hx hb hts (in_MO _) hown hK hP 0 (by decide) rfl rfl 34 (by decide) (ht _ wC_716) rfl d_MO_work_167 ?_
                    refine lv_if_ne (tgt := 180) hx hb d_MO_work_170 (by decide) (fun c28 => ?_) (fun c28 => ?_)
                    · have hq := hq.2 c28
                      refine lv_dconst0 hx hb d_MO_work_180 ?_
                      exact W.dret hx hb hr (fun t ht hW => ⟨⟨FP.dconst0, s27, rfl, hq, by rw [ht]; exact hP, va_K.moved hW.alike hK, hN.warm hW⟩, hS.F ht⟩) hS.2.2 d_MO_work_181
                    · have hq := hq.1 c28
                      refine lv_aload_n hx hb d_MO_work_173 rfl (lv_at hl 1 rfl) ?_
                      refine cw_get (C := R_MO) (T := F_MO) (N := 39) (v := .double (gX s27 0)) hx hb hts (in_MO _) hown hK hP 0 (by decide) rfl rfl 38 (by decide) (ht _ wC_720) rfl d_MO_work_174 ?_
                      refine lv_goto (tgt := 181) hx hb d_MO_work_177 (by decide) ?_
                      exact W.dret hx hb hr (fun t ht hW => ⟨⟨(gX s27 0), s27, rfl, hq, by rw [ht]; exact hP, va_K.moved hW.alike hK, hN.warm hW⟩, hS.F ht⟩) hS.2.2 d_MO_work_181
                · have hq := hq.1 c23
                  refine lv_iconst (v := 4) hx hb d_MO_work_145 (by decide) ?_
                  refine lv_goto (tgt := 163) hx hb d_MO_work_146 (by decide) ?_
                  refine cw_put (C := R_MO) (T := F_MO) (N := 39) (ty := .int) (v := .int 4) hx hb hts (in_MO _) t_MO tok_MO n_MO hown hK hP hi hS 0 (by decide) rfl rfl 14 (by decide) (ht _ wC_696) rfl (by decide +kernel) rfl rfl (Nat.le_of_ble_eq_true rfl) up_MO_thrown d_MO_work_163 (fun H locs hP hS => ?_)
                  obtain ⟨s29, e_s29⟩ : ∃ z, z = sI σ 5 4 := ⟨_, rfl⟩
                  rw [← e_s29] at hP
                  have hq := hq s29 e_s29
                  refine lv_aload_n hx hb d_MO_work_166 rfl (lv_at hl 1 rfl) ?_
                  refine cw_get (C := R_MO) (T := F_MO) (N := 39) (v := .int (gI s29 10)) hx hb hts (in_MO _) hown hK hP 0 (by decide) rfl rfl 34 (by decide) (ht _ wC_716) rfl d_MO_work_167 ?_
                  refine lv_if_ne (tgt := 180) hx hb d_MO_work_170 (by decide) (fun c30 => ?_) (fun c30 => ?_)
                  · have hq := hq.2 c30
                    refine lv_dconst0 hx hb d_MO_work_180 ?_
                    exact W.dret hx hb hr (fun t ht hW => ⟨⟨FP.dconst0, s29, rfl, hq, by rw [ht]; exact hP, va_K.moved hW.alike hK, hN.warm hW⟩, hS.F ht⟩) hS.2.2 d_MO_work_181
                  · have hq := hq.1 c30
                    refine lv_aload_n hx hb d_MO_work_173 rfl (lv_at hl 1 rfl) ?_
                    refine cw_get (C := R_MO) (T := F_MO) (N := 39) (v := .double (gX s29 0)) hx hb hts (in_MO _) hown hK hP 0 (by decide) rfl rfl 38 (by decide) (ht _ wC_720) rfl d_MO_work_174 ?_
                    refine lv_goto (tgt := 181) hx hb d_MO_work_177 (by decide) ?_
                    exact W.dret hx hb hr (fun t ht hW => ⟨⟨(gX s29 0), s29, rfl, hq, by rw [ht]; exact hP, va_K.moved hW.alike hK, hN.warm hW⟩, hS.F ht⟩) hS.2.2 d_MO_work_181
            · have hq := hq.1 c19
              refine lv_iconst (v := 3) hx hb d_MO_work_124 (by decide) ?_
              refine lv_goto (tgt := 163) hx hb d_MO_work_125 (by decide) ?_
              refine cw_put (C := R_MO) (T := F_MO) (N := 39) (ty := .int) (v := .int 3) hx hb hts (in_MO _) t_MO tok_MO n_MO hown hK hP hi hS 0 (by decide) rfl rfl 14 (by decide) (ht _ wC_696) rfl (by decide +kernel) rfl rfl (Nat.le_of_ble_eq_true rfl) up_MO_thrown d_MO_work_163 (fun H locs hP hS => ?_)
              obtain ⟨s31, e_s31⟩ : ∃ z, z = sI σ 5 3 := ⟨_, rfl⟩
              rw [← e_s31] at hP
              have hq := hq s31 e_s31
              refine lv_aload_n hx hb d_MO_work_166 rfl (lv_at hl 1 rfl) ?_
              refine cw_get (C := R_MO) (T := F_MO) (N := 39) (v := .int (gI s31 10)) hx hb hts (in_MO _) hown hK hP 0 (by decide) rfl rfl 34 (by decide) (ht _ wC_716) rfl d_MO_work_167 ?_
              refine lv_if_ne (tgt := 180) hx hb d_MO_work_170 (by decide) (fun c32 => ?_) (fun c32 => ?_)
              · have hq := hq.2 c32
                refine lv_dconst0 hx hb d_MO_work_180 ?_
                exact W.dret hx hb hr (fun t ht hW => ⟨⟨FP.dconst0, s31, rfl, hq, by rw [ht]; exact hP, va_K.moved hW.alike hK, hN.warm hW⟩, hS.F ht⟩) hS.2.2 d_MO_work_181
              · have hq := hq.1 c32
                refine lv_aload_n hx hb d_MO_work_173 rfl (lv_at hl 1 rfl) ?_
                refine cw_get (C := R_MO) (T := F_MO) (N := 39) (v := .double (gX s31 0)) hx hb hts (in_MO _) hown hK hP 0 (by decide) rfl rfl 38 (by decide) (ht _ wC_720) rfl d_MO_work_174 ?_
                refine lv_goto (tgt := 181) hx hb d_MO_work_177 (by decide) ?_
                exact W.dret hx hb hr (fun t ht hW => ⟨⟨(gX s31 0), s31, rfl, hq, by rw [ht]; exact hP, va_K.moved hW.alike hK, hN.warm hW⟩, hS.F ht⟩) hS.2.2 d_MO_work_181
          · have hq := hq.2 c18
            refine lv_iconst (v := 2) hx hb d_MO_work_112 (by decide) ?_
            refine lv_goto (tgt := 163) hx hb d_MO_work_113 (by decide) ?_
            refine cw_put (C := R_MO) (T := F_MO) (N := 39) (ty := .int) (v := .int 2) hx hb hts (in_MO _) t_MO tok_MO n_MO hown hK hP hi hS 0 (by decide) rfl rfl 14 (by decide) (ht _ wC_696) rfl (by decide +kernel) rfl rfl (Nat.le_of_ble_eq_true rfl) up_MO_thrown d_MO_work_163 (fun H locs hP hS => ?_)
            obtain ⟨s33, e_s33⟩ : ∃ z, z = sI σ 5 2 := ⟨_, rfl⟩
            rw [← e_s33] at hP
            have hq := hq s33 e_s33
            refine lv_aload_n hx hb d_MO_work_166 rfl (lv_at hl 1 rfl) ?_
            refine cw_get (C := R_MO) (T := F_MO) (N := 39) (v := .int (gI s33 10)) hx hb hts (in_MO _) hown hK hP 0 (by decide) rfl rfl 34 (by decide) (ht _ wC_716) rfl d_MO_work_167 ?_
            refine lv_if_ne (tgt := 180) hx hb d_MO_work_170 (by decide) (fun c34 => ?_) (fun c34 => ?_)
            · have hq := hq.2 c34
              refine lv_dconst0 hx hb d_MO_work_180 ?_
              exact W.dret hx hb hr (fun t ht hW => ⟨⟨FP.dconst0, s33, rfl, hq, by rw [ht]; exact hP, va_K.moved hW.alike hK, hN.warm hW⟩, hS.F ht⟩) hS.2.2 d_MO_work_181
            · have hq := hq.1 c34
              refine lv_aload_n hx hb d_MO_work_173 rfl (lv_at hl 1 rfl) ?_
              refine cw_get (C := R_MO) (T := F_MO) (N := 39) (v := .double (gX s33 0)) hx hb hts (in_MO _) hown hK hP 0 (by decide) rfl rfl 38 (by decide) (ht _ wC_720) rfl d_MO_work_174 ?_
              refine lv_goto (tgt := 181) hx hb d_MO_work_177 (by decide) ?_
              exact W.dret hx hb hr (fun t ht hW => ⟨⟨(gX s33 0), s33, rfl, hq, by rw [ht]; exact hP, va_K.moved hW.alike hK, hN.warm hW⟩, hS.F ht⟩) hS.2.2 d_MO_work_181
        · have hq := hq.1 c17
          refine lv_iconst (v := 0) hx hb d_MO_work_100 (by decide) ?_
          refine lv_goto (tgt := 163) hx hb d_MO_work_101 (by decide) ?_
          refine cw_put (C := R_MO) (T := F_MO) (N := 39) (ty := .int) (v := .int 0) hx hb hts (in_MO _) t_MO tok_MO n_MO hown hK hP hi hS 0 (by decide) rfl rfl 14 (by decide) (ht _ wC_696) rfl (by decide +kernel) rfl rfl (Nat.le_of_ble_eq_true rfl) up_MO_thrown d_MO_work_163 (fun H locs hP hS => ?_)
          obtain ⟨s35, e_s35⟩ : ∃ z, z = sI σ 5 0 := ⟨_, rfl⟩
          rw [← e_s35] at hP
          have hq := hq s35 e_s35
          refine lv_aload_n hx hb d_MO_work_166 rfl (lv_at hl 1 rfl) ?_
          refine cw_get (C := R_MO) (T := F_MO) (N := 39) (v := .int (gI s35 10)) hx hb hts (in_MO _) hown hK hP 0 (by decide) rfl rfl 34 (by decide) (ht _ wC_716) rfl d_MO_work_167 ?_
          refine lv_if_ne (tgt := 180) hx hb d_MO_work_170 (by decide) (fun c36 => ?_) (fun c36 => ?_)
          · have hq := hq.2 c36
            refine lv_dconst0 hx hb d_MO_work_180 ?_
            exact W.dret hx hb hr (fun t ht hW => ⟨⟨FP.dconst0, s35, rfl, hq, by rw [ht]; exact hP, va_K.moved hW.alike hK, hN.warm hW⟩, hS.F ht⟩) hS.2.2 d_MO_work_181
          · have hq := hq.1 c36
            refine lv_aload_n hx hb d_MO_work_173 rfl (lv_at hl 1 rfl) ?_
            refine cw_get (C := R_MO) (T := F_MO) (N := 39) (v := .double (gX s35 0)) hx hb hts (in_MO _) hown hK hP 0 (by decide) rfl rfl 38 (by decide) (ht _ wC_720) rfl d_MO_work_174 ?_
            refine lv_goto (tgt := 181) hx hb d_MO_work_177 (by decide) ?_
            exact W.dret hx hb hr (fun t ht hW => ⟨⟨(gX s35 0), s35, rfl, hq, by rw [ht]; exact hP, va_K.moved hW.alike hK, hN.warm hW⟩, hS.F ht⟩) hS.2.2 d_MO_work_181
      · have hq := hq.2 c16
        refine lv_aload_n hx hb d_MO_work_78 rfl (lv_at hl 1 rfl) ?_
        refine cw_get (C := R_MO) (T := F_MO) (N := 39) (v := .int (gI σ 10)) hx hb hts (in_MO _) hown hK hP 0 (by decide) rfl rfl 34 (by decide) (ht _ wC_716) rfl d_MO_work_79 ?_
        refine lv_if_ne (tgt := 92) hx hb d_MO_work_82 (by decide) (fun c37 => ?_) (fun c37 => ?_)
        · have hq := hq.2 c37
          refine lv_aload_n hx hb d_MO_work_92 rfl (lv_at hl 1 rfl) ?_
          refine lv_aload_n hx hb d_MO_work_93 rfl (lv_at hl 1 rfl) ?_
          refine cw_get (C := R_MO) (T := F_MO) (N := 39) (v := .int (gI σ 10)) hx hb hts (in_MO _) hown hK hP 0 (by decide) rfl rfl 34 (by decide) (ht _ wC_716) rfl d_MO_work_94 ?_
          refine lv_if_ne (tgt := 104) hx hb d_MO_work_97 (by decide) (fun c38 => ?_) (fun c38 => ?_)
          · have hq := hq.2 c38
            refine lv_aload_n hx hb d_MO_work_104 rfl (lv_at hl 1 rfl) ?_
            refine cw_get (C := R_MO) (T := F_MO) (N := 39) (v := .int (gI σ 10)) hx hb hts (in_MO _) hown hK hP 0 (by decide) rfl rfl 34 (by decide) (ht _ wC_716) rfl d_MO_work_105 ?_
            refine lv_iconst (v := 3) hx hb d_MO_work_108 (by decide) ?_
            refine lv_icmp_ge (tgt := 116) hx hb d_MO_work_109 (by decide) (fun c39 => ?_) (fun c39 => ?_)
            · have hq := hq.1 c39
              refine lv_aload_n hx hb d_MO_work_116 rfl (lv_at hl 1 rfl) ?_
              refine cw_get (C := R_MO) (T := F_MO) (N := 39) (v := .int (gI σ 10)) hx hb hts (in_MO _) hown hK hP 0 (by decide) rfl rfl 34 (by decide) (ht _ wC_716) rfl d_MO_work_117 ?_
              refine lv_iconst (v := 3) hx hb d_MO_work_120 (by decide) ?_
              refine lv_icmp_ne (tgt := 128) hx hb d_MO_work_121 (by decide) (fun c40 => ?_) (fun c40 => ?_)
              · have hq := hq.2 c40
                refine lv_aload_n hx hb d_MO_work_128 rfl (lv_at hl 1 rfl) ?_
                refine cw_get (C := R_MO) (T := F_MO) (N := 39) (v := .int (gI σ 10)) hx hb hts (in_MO _) hown hK hP 0 (by decide) rfl rfl 34 (by decide) (ht _ wC_716) rfl d_MO_work_129 ?_
                refine lv_iconst (v := 4) hx hb d_MO_work_132 (by decide) ?_
                refine lv_icmp_eq (tgt := 145) hx hb d_MO_work_133 (by decide) (fun c41 => ?_) (fun c41 => ?_)
                · have hq := hq.1 c41
                  refine lv_iconst (v := 4) hx hb d_MO_work_145 (by decide) ?_
                  refine lv_goto (tgt := 163) hx hb d_MO_work_146 (by decide) ?_
                  refine cw_put (C := R_MO) (T := F_MO) (N := 39) (ty := .int) (v := .int 4) hx hb hts (in_MO _) t_MO tok_MO n_MO hown hK hP hi hS 0 (by decide) rfl rfl 14 (by decide) (ht _ wC_696) rfl (by decide +kernel) rfl rfl (Nat.le_of_ble_eq_true rfl) up_MO_thrown d_MO_work_163 (fun H locs hP hS => ?_)
                  obtain ⟨s42, e_s42⟩ : ∃ z, z = sI σ 5 4 := ⟨_, rfl⟩
                  rw [← e_s42] at hP
                  have hq := hq s42 e_s42
                  refine lv_aload_n hx hb d_MO_work_166 rfl (lv_at hl 1 rfl) ?_
                  refine cw_get (C := R_MO) (T := F_MO) (N := 39) (v := .int (gI s42 10)) hx hb hts (in_MO _) hown hK hP 0 (by decide) rfl rfl 34 (by decide) (ht _ wC_716) rfl d_MO_work_167 ?_
                  refine lv_if_ne (tgt := 180) hx hb d_MO_work_170 (by decide) (fun c43 => ?_) (fun c43 => ?_)
                  · have hq := hq.2 c43
                    refine lv_dconst0 hx hb d_MO_work_180 ?_
                    exact W.dret hx hb hr (fun t ht hW => ⟨⟨FP.dconst0, s42, rfl, hq, by rw [ht]; exact hP, va_K.moved hW.alike hK, hN.warm hW⟩, hS.F ht⟩) hS.2.2 d_MO_work_181
                  · have hq := hq.1 c43
                    refine lv_aload_n hx hb d_MO_work_173 rfl (lv_at hl 1 rfl) ?_
                    refine cw_get (C := R_MO) (T := F_MO) (N := 39) (v := .double (gX s42 0)) hx hb hts (in_MO _) hown hK hP 0 (by decide) rfl rfl 38 (by decide) (ht _ wC_720) rfl d_MO_work_174 ?_
                    refine lv_goto (tgt := 181) hx hb d_MO_work_177 (by decide) ?_
                    exact W.dret hx hb hr (fun t ht hW => ⟨⟨(gX s42 0), s42, rfl, hq, by rw [ht]; exact hP, va_K.moved hW.alike hK, hN.warm hW⟩, hS.F ht⟩) hS.2.2 d_MO_work_181
                · have hq := hq.2 c41
                  refine lv_aload_n hx hb d_MO_work_136 rfl (lv_at hl 1 rfl) ?_
                  refine cw_get (C := R_MO) (T := F_MO) (N := 39) (v := .int (gI σ 10)) hx hb hts (in_MO _) hown hK hP 0 (by decide) rfl rfl 34 (by decide) (ht _ wC_716) rfl d_MO_work_137 ?_
                  refine lv_bipush (v := 6) hx hb d_MO_work_140 (by decide) ?_
                  refine lv_icmp_ne (tgt := 149) hx hb d_MO_work_142 (by decide) (fun c44 => ?_) (fun c44 => ?_)
                  · have hq := hq.2 c44
                    refine lv_aload_n hx hb d_MO_work_149 rfl (lv_at hl 1 rfl) ?_
                    refine cw_get (C := R_MO) (T := F_MO) (N := 39) (v := .int (gI σ 10)) hx hb hts (in_MO _) hown hK hP 0 (by decide) rfl rfl 34 (by decide) (ht _ wC_716) rfl d_MO_work_150 ?_
                    refine lv_iconst (v := 5) hx hb d_MO_work_153 (by decide) ?_
                    refine lv_icmp_ne (tgt := 161) hx hb d_MO_work_154 (by decide) (fun c45 => ?_) (fun c45 => ?_)
                    · have hq := hq.2 c45
                      refine lv_bipush (v := 6) hx hb d_MO_work_161 (by decide) ?_
                      refine cw_put (C := R_MO) (T := F_MO) (N := 39) (ty := .int) (v := .int 6) hx hb hts (in_MO _) t_MO tok_MO n_MO hown hK hP hi hS 0 (by decide) rfl rfl 14 (by decide) (ht _ wC_696) rfl (by decide +kernel) rfl rfl (Nat.le_of_ble_eq_true rfl) up_MO_thrown d_MO_work_163 (fun H locs hP hS => ?_)
                      obtain ⟨s46, e_s46⟩ : ∃ z, z = sI σ 5 6 := ⟨_, rfl⟩
                      rw [← e_s46] at hP
                      have hq := hq s46 e_s46
                      refine lv_aload_n hx hb d_MO_work_166 rfl (lv_at hl 1 rfl) ?_
                      refine cw_get (C := R_MO) (T := F_MO) (N := 39) (v := .int (gI s46 10)) hx hb hts (in_MO _) hown hK hP 0 (by decide) rfl rfl 34 (by decide) (ht _ wC_716) rfl d_MO_work_167 ?_
                      refine lv_if_ne (tgt := 180) hx hb d_MO_work_170 (by decide) (fun c47 => ?_) (fun c47 => ?_)
                      · have hq := hq.2 c47
                        refine lv_dconst0 hx hb d_MO_work_180 ?_
                        exact W.dret hx hb hr (fun t ht hW => ⟨⟨FP.dconst0, s46, rfl, hq, by rw [ht]; exact hP, va_K.moved hW.alike hK, hN.warm hW⟩, hS.F ht⟩) hS.2.2 d_MO_work_181
                      · have hq := hq.1 c47
                        refine lv_aload_n hx hb d_MO_work_173 rfl (lv_at hl 1 rfl) ?_
                        refine cw_get (C := R_MO) (T := F_MO) (N := 39) (v := .double (gX s46 0)) hx hb hts (in_MO _) hown hK hP 0 (by decide) rfl rfl 38 (by decide) (ht _ wC_720) rfl d_MO_work_174 ?_
                        refine lv_goto (tgt := 181) hx hb d_MO_work_177 (by decide) ?_
                        exact W.dret hx hb hr (fun t ht hW => ⟨⟨(gX s46 0), s46, rfl, hq, by rw [ht]; exact hP, va_K.moved hW.alike hK, hN.warm hW⟩, hS.F ht⟩) hS.2.2 d_MO_work_181
                    · have hq := hq.1 c45
                      refine lv_iconst (v := 5) hx hb d_MO_work_157 (by decide) ?_
                      refine lv_goto (tgt := 163) hx hb d_MO_work_158 (by decide) ?_
                      refine cw_put (C := R_MO) (T := F_MO) (N := 39) (ty := .int) (v := .int 5) hx hb hts (in_MO _) t_MO tok_MO n_MO hown hK hP hi hS 0 (by decide) rfl rfl 14 (by decide) (ht _ wC_696) rfl (by decide +kernel) rfl rfl (Nat.le_of_ble_eq_true rfl) up_MO_thrown d_MO_work_163 (fun H locs hP hS => ?_)
                      obtain ⟨s48, e_s48⟩ : ∃ z, z = sI σ 5 5 := ⟨_, rfl⟩
                      rw [← e_s48] at hP
                      have hq := hq s48 e_s48
                      refine lv_aload_n hx hb d_MO_work_166 rfl (lv_at hl 1 rfl) ?_
                      refine cw_get (C := R_MO) (T := F_MO) (N := 39) (v := .int (gI s48 10)) hx hb hts (in_MO _) hown hK hP 0 (by decide) rfl rfl 34 (by decide) (ht _ wC_716) rfl d_MO_work_167 ?_
                      refine lv_if_ne (tgt := 180) hx hb d_MO_work_170 (by decide) (fun c49 => ?_) (fun c49 => ?_)
                      · have hq := hq.2 c49
                        refine lv_dconst0 hx hb d_MO_work_180 ?_
                        exact W.dret hx hb hr (fun t ht hW => ⟨⟨FP.dconst0, s48, rfl, hq, by rw [ht]; exact hP, va_K.moved hW.alike hK, hN.warm hW⟩, hS.F ht⟩) hS.2.2 d_MO_work_181
                      · have hq := hq.1 c49
                        refine lv_aload_n hx hb d_MO_work_173 rfl (lv_at hl 1 rfl) ?_
                        refine cw_get (C := R_MO) (T := F_MO) (N := 39) (v := .double (gX s48 0)) hx hb hts (in_MO _) hown hK hP 0 (by decide) rfl rfl 38 (by decide) (ht _ wC_720) rfl d_MO_work_174 ?_
                        refine lv_goto (tgt := 181) hx hb d_MO_work_177 (by decide) ?_
                        exact W.dret hx hb hr (fun t ht hW => ⟨⟨(gX s48 0), s48, rfl, hq, by rw [ht]; exact hP, va_K.moved hW.alike hK, hN.warm hW⟩, hS.F ht⟩) hS.2.2 d_MO_work_181
                  · have hq := hq.1 c44
                    refine lv_iconst (v := 4) hx hb d_MO_work_145 (by decide) ?_
                    refine lv_goto (tgt := 163) hx hb d_MO_work_146 (by decide) ?_
                    refine cw_put (C := R_MO) (T := F_MO) (N := 39) (ty := .int) (v := .int 4) hx hb hts (in_MO _) t_MO tok_MO n_MO hown hK hP hi hS 0 (by decide) rfl rfl 14 (by decide) (ht _ wC_696) rfl (by decide +kernel) rfl rfl (Nat.le_of_ble_eq_true rfl) up_MO_thrown d_MO_work_163 (fun H locs hP hS => ?_)
                    obtain ⟨s50, e_s50⟩ : ∃ z, z = sI σ 5 4 := ⟨_, rfl⟩
                    rw [← e_s50] at hP
                    have hq := hq s50 e_s50
                    refine lv_aload_n hx hb d_MO_work_166 rfl (lv_at hl 1 rfl) ?_
                    refine cw_get (C := R_MO) (T := F_MO) (N := 39) (v := .int (gI s50 10)) hx hb hts (in_MO _) hown hK hP 0 (by decide) rfl rfl 34 (by decide) (ht _ wC_716) rfl d_MO_work_167 ?_
                    refine lv_if_ne (tgt := 180) hx hb d_MO_work_170 (by decide) (fun c51 => ?_) (fun c51 => ?_)
                    · have hq := hq.2 c51
                      refine lv_dconst0 hx hb d_MO_work_180 ?_
                      exact W.dret hx hb hr (fun t ht hW => ⟨⟨FP.dconst0, s50, rfl, hq, by rw [ht]; exact hP, va_K.moved hW.alike hK, hN.warm hW⟩, hS.F ht⟩) hS.2.2 d_MO_work_181
                    · have hq := hq.1 c51
                      refine lv_aload_n hx hb d_MO_work_173 rfl (lv_at hl 1 rfl) ?_
                      refine cw_get (C := R_MO) (T := F_MO) (N := 39) (v := .double (gX s50 0)) hx hb hts (in_MO _) hown hK hP 0 (by decide) rfl rfl 38 (by decide) (ht _ wC_720) rfl d_MO_work_174 ?_
                      refine lv_goto (tgt := 181) hx hb d_MO_work_177 (by decide) ?_
                      exact W.dret hx hb hr (fun t ht hW => ⟨⟨(gX s50 0), s50, rfl, hq, by rw [ht]; exact hP, va_K.moved hW.alike hK, hN.warm hW⟩, hS.F ht⟩) hS.2.2 d_MO_work_181
              · have hq := hq.1 c40
                refine lv_iconst (v := 3) hx hb d_MO_work_124 (by decide) ?_
                refine lv_goto (tgt := 163) hx hb d_MO_work_125 (by decide) ?_
                refine cw_put (C := R_MO) (T := F_MO) (N := 39) (ty := .int) (v := .int 3) hx hb hts (in_MO _) t_MO tok_MO n_MO hown hK hP hi hS 0 (by decide) rfl rfl 14 (by decide) (ht _ wC_696) rfl (by decide +kernel) rfl rfl (Nat.le_of_ble_eq_true rfl) up_MO_thrown d_MO_work_163 (fun H locs hP hS => ?_)
                obtain ⟨s52, e_s52⟩ : ∃ z, z = sI σ 5 3 := ⟨_, rfl⟩
                rw [← e_s52] at hP
                have hq := hq s52 e_s52
                refine lv_aload_n hx hb d_MO_work_166 rfl (lv_at hl 1 rfl) ?_
                refine cw_get (C := R_MO) (T := F_MO) (N := 39) (v := .int (gI s52 10)) hx hb hts (in_MO _) hown hK hP 0 (by decide) rfl rfl 34 (by decide) (ht _ wC_716) rfl d_MO_work_167 ?_
                refine lv_if_ne (tgt := 180) hx hb d_MO_work_170 (by decide) (fun c53 => ?_) (fun c53 => ?_)
                · have hq := hq.2 c53
                  refine lv_dconst0 hx hb d_MO_work_180 ?_
                  exact W.dret hx hb hr (fun t ht hW => ⟨⟨FP.dconst0, s52, rfl, hq, by rw [ht]; exact hP, va_K.moved hW.alike hK, hN.warm hW⟩, hS.F ht⟩) hS.2.2 d_MO_work_181
                · have hq := hq.1 c53
                  refine lv_aload_n hx hb d_MO_work_173 rfl (lv_at hl 1 rfl) ?_
                  refine cw_get (C := R_MO) (T := F_MO) (N := 39) (v := .double (gX s52 0)) hx hb hts (in_MO _) hown hK hP 0 (by decide) rfl rfl 38 (by decide) (ht _ wC_720) rfl d_MO_work_174 ?_
                  refine lv_goto (tgt := 181) hx hb d_MO_work_177 (by decide) ?_
                  exact W.dret hx hb hr (fun t ht hW => ⟨⟨(gX s52 0), s52, rfl, hq, by rw [ht]; exact hP, va_K.moved hW.alike hK, hN.warm hW⟩, hS.F ht⟩) hS.2.2 d_MO_work_181
            · have hq := hq.2 c39
              refine lv_iconst (v := 2) hx hb d_MO_work_112 (by decide) ?_
              refine lv_goto (tgt := 163) hx hb d_MO_work_113 (by decide) ?_
              refine cw_put (C := R_MO) (T := F_MO) (N := 39) (ty := .int) (v := .int 2) hx hb hts (in_MO _) t_MO tok_MO n_MO hown hK hP hi hS 0 (by decide) rfl rfl 14 (by decide) (ht _ wC_696) rfl (by decide +kernel) rfl rfl (Nat.le_of_ble_eq_true rfl) up_MO_thrown d_MO_work_163 (fun H locs hP hS => ?_)
              obtain ⟨s54, e_s54⟩ : ∃ z, z = sI σ 5 2 := ⟨_, rfl⟩
              rw [← e_s54] at hP
              have hq := hq s54 e_s54
              refine lv_aload_n hx hb d_MO_work_166 rfl (lv_at hl 1 rfl) ?_
              refine cw_get (C := R_MO) (T := F_MO) (N := 39) (v := .int (gI s54 10)) hx hb hts (in_MO _) hown hK hP 0 (by decide) rfl rfl 34 (by decide) (ht _ wC_716) rfl d_MO_work_167 ?_
              refine lv_if_ne (tgt := 180) hx hb d_MO_work_170 (by decide) (fun c55 => ?_) (fun c55 => ?_)
              · have hq := hq.2 c55
                refine lv_dconst0 hx hb d_MO_work_180 ?_
                exact W.dret hx hb hr (fun t ht hW => ⟨⟨FP.dconst0, s54, rfl, hq, by rw [ht]; exact hP, va_K.moved hW.alike hK, hN.warm hW⟩, hS.F ht⟩) hS.2.2 d_MO_work_181
              · have hq := hq.1 c55
                refine lv_aload_n hx hb d_MO_work_173 rfl (lv_at hl 1 rfl) ?_
                refine cw_get (C := R_MO) (T := F_MO) (N := 39) (v := .double (gX s54 0)) hx hb hts (in_MO _) hown hK hP 0 (by decide) rfl rfl 38 (by decide) (ht _ wC_720) rfl d_MO_work_174 ?_
                refine lv_goto (tgt := 181) hx hb d_MO_work_177 (by decide) ?_
                exact W.dret hx hb hr (fun t ht hW => ⟨⟨(gX s54 0), s54, rfl, hq, by rw [ht]; exact hP, va_K.moved hW.alike hK, hN.warm hW⟩, hS.F ht⟩) hS.2.2 d_MO_work_181
          · have hq := hq.1 c38
            refine lv_iconst (v := 0) hx hb d_MO_work_100 (by decide) ?_
            refine lv_goto (tgt := 163) hx hb d_MO_work_101 (by decide) ?_
            refine cw_put (C := R_MO) (T := F_MO) (N := 39) (ty := .int) (v := .int 0) hx hb hts (in_MO _) t_MO tok_MO n_MO hown hK hP hi hS 0 (by decide) rfl rfl 14 (by decide) (ht _ wC_696) rfl (by decide +kernel) rfl rfl (Nat.le_of_ble_eq_true rfl) up_MO_thrown d_MO_work_163 (fun H locs hP hS => ?_)
            obtain ⟨s56, e_s56⟩ : ∃ z, z = sI σ 5 0 := ⟨_, rfl⟩
            rw [← e_s56] at hP
            have hq := hq s56 e_s56
            refine lv_aload_n hx hb d_MO_work_166 rfl (lv_at hl 1 rfl) ?_
            refine cw_get (C := R_MO) (T := F_MO) (N := 39) (v := .int (gI s56 10)) hx hb hts (in_MO _) hown hK hP 0 (by decide) rfl rfl 34 (by decide) (ht _ wC_716) rfl d_MO_work_167 ?_
            refine lv_if_ne (tgt := 180) hx hb d_MO_work_170 (by decide) (fun c57 => ?_) (fun c57 => ?_)
            · have hq := hq.2 c57
              refine lv_dconst0 hx hb d_MO_work_180 ?_
              exact W.dret hx hb hr (fun t ht hW => ⟨⟨FP.dconst0, s56, rfl, hq, by rw [ht]; exact hP, va_K.moved hW.alike hK, hN.warm hW⟩, hS.F ht⟩) hS.2.2 d_MO_work_181
            · have hq := hq.1 c57
              refine lv_aload_n hx hb d_MO_work_173 rfl (lv_at hl 1 rfl) ?_
              refine cw_get (C := R_MO) (T := F_MO) (N := 39) (v := .double (gX s56 0)) hx hb hts (in_MO _) hown hK hP 0 (by decide) rfl rfl 38 (by decide) (ht _ wC_720) rfl d_MO_work_174 ?_
              refine lv_goto (tgt := 181) hx hb d_MO_work_177 (by decide) ?_
              exact W.dret hx hb hr (fun t ht hW => ⟨⟨(gX s56 0), s56, rfl, hq, by rw [ht]; exact hP, va_K.moved hW.alike hK, hN.warm hW⟩, hS.F ht⟩) hS.2.2 d_MO_work_181
        · have hq := hq.1 c37
          refine lv_aload_n hx hb d_MO_work_85 rfl (lv_at hl 1 rfl) ?_
          refine va_callv (va_runV (As := []) (rest := []) ⟨hx, hb, hml, hown, hts⟩ (c_MO_step (D := D) (cs := cs) hi hq) (cwV 0 hts (good_V wC_859 wC_861 wC_28 wC_50 wC_862) rfl rfl rfl (by decide +kernel) ⟨(show 4 + 1 ≤ 5 by omega), (show 8 + (6 + 11) + 87 ≤ 112 by omega)⟩) ⟨mP_blind, va_recv hK hP (ci := 5) (q0 := 0) rfl (wd_at (by decide) rfl), fun U hU hW => ⟨rfl, by rw [hU]; exact hP, va_K.moved hW.alike hK, hN.warm hW⟩⟩ rfl rfl hl.1 rfl (lv_room (Nat.le_of_ble_eq_true rfl)) d_MO_work_86 ⟨Nat.le_of_ble_eq_true rfl, Nat.le_of_ble_eq_true rfl⟩) hS (fun q _ h => h) (fun q h => h) (fun s59 t H locs ht0 hvm hq hB hz1 hk1 hS => ?_)
          obtain ⟨hP, -, -⟩ := hB
          rw [ht0] at hP
          refine lv_goto (tgt := 71) hx hb d_MO_work_89 (by decide) ?_
          exact ih x2 s59 _ _ ls hq hP hS (lv_sub hl [0, 1, 2] rfl)
  refine lv_aload_n hx hb d_MO_work_0 rfl (lv_at hl 0 rfl) ?_
  refine lv_iload_n hx hb d_MO_work_1 rfl (lv_at hl 1 rfl) ?_
  refine va_calli (va_runV (As := [.int p1]) (rest := []) ⟨hx, hb, hml, hown, hts⟩ (c_MO_isNode (D := D) (cs := cs) hi hq) (cwV 1 hts (good_V wC_815 wC_817 wC_24 wC_50 wC_818) rfl rfl rfl (by decide +kernel) ⟨(show 1 + 1 ≤ 5 by omega), (show 8 + (2 + 11) + 22 ≤ 112 by omega)⟩) ⟨mP_blind, va_recv hK hP (ci := 5) (q0 := 0) rfl (wd_at (by decide) rfl), fun U hU hW => ⟨rfl, by rw [hU]; exact hP, va_K.moved hW.alike hK, hN.warm hW⟩⟩ rfl rfl hl.1 rfl (lv_room (Nat.le_of_ble_eq_true rfl)) d_MO_work_2 ⟨Nat.le_of_ble_eq_true rfl, Nat.le_of_ble_eq_true rfl⟩) hS (fun q _ h => h) (fun q h => h) (fun r1 s2 t H locs ht0 hvm hq hB hz1 hk1 hS => ?_)
  obtain ⟨hP, -, -⟩ := hB
  rw [ht0] at hP
  refine lv_istore_n (lv' := [(2, .int r1), (0, .ref (am 0)), (1, .int p1)]) hx hb d_MO_work_5 rfl hl (by decide) rfl (fun ls hl => ?_)
  refine lv_aload_n hx hb d_MO_work_6 rfl (lv_at hl 1 rfl) ?_
  refine lv_iload_n hx hb d_MO_work_7 rfl (lv_at hl 0 rfl) ?_
  refine lv_if_eq (tgt := 15) hx hb d_MO_work_8 (by decide) (fun c3 => ?_) (fun c3 => ?_)
  · have hq := hq.1 c3
    refine lv_iconst (v := 1) hx hb d_MO_work_15 (by decide) ?_
    refine cw_put (C := R_MO) (T := F_MO) (N := 39) (ty := .int) (v := .int 1) hx hb hts (in_MO _) t_MO tok_MO n_MO hown hK hP hi hS 0 (by decide) rfl rfl 14 (by decide) (ht _ wC_696) rfl (by decide +kernel) rfl rfl (Nat.le_of_ble_eq_true rfl) up_MO_thrown d_MO_work_16 (fun H locs hP hS => ?_)
    obtain ⟨s4, e_s4⟩ : ∃ z, z = sI s2 5 1 := ⟨_, rfl⟩
    rw [← e_s4] at hP
    have hq := hq s4 e_s4
    refine lv_iload_n hx hb d_MO_work_19 rfl (lv_at hl 0 rfl) ?_
    refine lv_if_ne (tgt := 25) hx hb d_MO_work_20 (by decide) (fun c5 => ?_) (fun c5 => ?_)
    · have hq := hq.2 c5
      refine lv_aload_n hx hb d_MO_work_25 rfl (lv_at hl 1 rfl) ?_
      refine lv_iconst (v := 0) hx hb d_MO_work_26 (by decide) ?_
      refine cw_put (C := R_MO) (T := F_MO) (N := 39) (ty := .int) (v := .int 0) hx hb hts (in_MO _) t_MO tok_MO n_MO hown hK hP hi hS 0 (by decide) rfl rfl 32 (by decide) (ht _ wC_714) rfl (by decide +kernel) rfl rfl (Nat.le_of_ble_eq_true rfl) up_MO_top d_MO_work_27 (fun H locs hP hS => ?_)
      obtain ⟨s6, e_s6⟩ : ∃ z, z = sI s4 8 0 := ⟨_, rfl⟩
      rw [← e_s6] at hP
      have hq := hq s6 e_s6
      refine lv_aload_n hx hb d_MO_work_30 rfl (lv_at hl 1 rfl) ?_
      refine lv_iconst (v := 0) hx hb d_MO_work_31 (by decide) ?_
      refine cw_put (C := R_MO) (T := F_MO) (N := 39) (ty := .int) (v := .int 0) hx hb hts (in_MO _) t_MO tok_MO n_MO hown hK hP hi hS 0 (by decide) rfl rfl 33 (by decide) (ht _ wC_715) rfl (by decide +kernel) rfl rfl (Nat.le_of_ble_eq_true rfl) up_MO_done d_MO_work_32 (fun H locs hP hS => ?_)
      obtain ⟨s7, e_s7⟩ : ∃ z, z = sI s6 9 0 := ⟨_, rfl⟩
      rw [← e_s7] at hP
      have hq := hq s7 e_s7
      refine lv_aload_n hx hb d_MO_work_35 rfl (lv_at hl 1 rfl) ?_
      refine lv_iconst (v := 0) hx hb d_MO_work_36 (by decide) ?_
      refine cw_put (C := R_MO) (T := F_MO) (N := 39) (ty := .int) (v := .int 0) hx hb hts (in_MO _) t_MO tok_MO n_MO hown hK hP hi hS 0 (by decide) rfl rfl 34 (by decide) (ht _ wC_716) rfl (by decide +kernel) rfl rfl (Nat.le_of_ble_eq_true rfl) up_MO_fault d_MO_work_37 (fun H locs hP hS => ?_)
      obtain ⟨s8, e_s8⟩ : ∃ z, z = sI s7 10 0 := ⟨_, rfl⟩
      rw [← e_s8] at hP
      have hq := hq s8 e_s8
      refine lv_aload_n hx hb d_MO_work_40 rfl (lv_at hl 1 rfl) ?_
      refine lv_iconst (v := 0) hx hb d_MO_work_41 (by decide) ?_
      refine cw_put (C := R_MO) (T := F_MO) (N := 39) (ty := .int) (v := .int 0) hx hb hts (in_MO _) t_MO tok_MO n_MO hown hK hP hi hS 0 (by decide) rfl rfl 35 (by decide) (ht _ wC_717) rfl (by decide +kernel) rfl rfl (Nat.le_of_ble_eq_true rfl) up_MO_calls d_MO_work_42 (fun H locs hP hS => ?_)
      obtain ⟨s9, e_s9⟩ : ∃ z, z = sI s8 11 0 := ⟨_, rfl⟩
      rw [← e_s9] at hP
      have hq := hq s9 e_s9
      refine lv_aload_n hx hb d_MO_work_45 rfl (lv_at hl 1 rfl) ?_
      refine lv_iconst (v := 0) hx hb d_MO_work_46 (by decide) ?_
      refine cw_put (C := R_MO) (T := F_MO) (N := 39) (ty := .int) (v := .int 0) hx hb hts (in_MO _) t_MO tok_MO n_MO hown hK hP hi hS 0 (by decide) rfl rfl 36 (by decide) (ht _ wC_718) rfl (by decide +kernel) rfl rfl (Nat.le_of_ble_eq_true rfl) up_MO_most d_MO_work_47 (fun H locs hP hS => ?_)
      obtain ⟨s10, e_s10⟩ : ∃ z, z = sI s9 12 0 := ⟨_, rfl⟩
      rw [← e_s10] at hP
      have hq := hq s10 e_s10
      refine lv_aload_n hx hb d_MO_work_50 rfl (lv_at hl 1 rfl) ?_
      refine lv_iconst (v := 0) hx hb d_MO_work_51 (by decide) ?_
      refine cw_put (C := R_MO) (T := F_MO) (N := 39) (ty := .int) (v := .int 0) hx hb hts (in_MO _) t_MO tok_MO n_MO hown hK hP hi hS 0 (by decide) rfl rfl 37 (by decide) (ht _ wC_719) rfl (by decide +kernel) rfl rfl (Nat.le_of_ble_eq_true rfl) up_MO_jumps d_MO_work_52 (fun H locs hP hS => ?_)
      obtain ⟨s11, e_s11⟩ : ∃ z, z = sI s10 13 0 := ⟨_, rfl⟩
      rw [← e_s11] at hP
      have hq := hq s11 e_s11
      refine lv_aload_n hx hb d_MO_work_55 rfl (lv_at hl 1 rfl) ?_
      refine lv_iconst (v := 0) hx hb d_MO_work_56 (by decide) ?_
      refine cw_put (C := R_MO) (T := F_MO) (N := 39) (ty := .int) (v := .int 0) hx hb hts (in_MO _) t_MO tok_MO n_MO hown hK hP hi hS 0 (by decide) rfl rfl 22 (by decide) (ht _ wC_704) rfl (by decide +kernel) rfl rfl (Nat.le_of_ble_eq_true rfl) up_MO_depth d_MO_work_57 (fun H locs hP hS => ?_)
      obtain ⟨s12, e_s12⟩ : ∃ z, z = sI s11 7 0 := ⟨_, rfl⟩
      rw [← e_s12] at hP
      have hq := hq s12 e_s12
      refine lv_aload_n hx hb d_MO_work_60 rfl (lv_at hl 1 rfl) ?_
      refine lv_iconst (v := 0) hx hb d_MO_work_61 (by decide) ?_
      refine cw_put (C := R_MO) (T := F_MO) (N := 39) (ty := .int) (v := .int 0) hx hb hts (in_MO _) t_MO tok_MO n_MO hown hK hP hi hS 0 (by decide) rfl rfl 21 (by decide) (ht _ wC_703) rfl (by decide +kernel) rfl rfl (Nat.le_of_ble_eq_true rfl) up_MO_environments d_MO_work_62 (fun H locs hP hS => ?_)
      obtain ⟨s13, e_s13⟩ : ∃ z, z = sI s12 6 0 := ⟨_, rfl⟩
      rw [← e_s13] at hP
      have hq := hq s13 e_s13
      refine lv_aload_n hx hb d_MO_work_65 rfl (lv_at hl 1 rfl) ?_
      refine lv_iload_n hx hb d_MO_work_66 rfl (lv_at hl 2 rfl) ?_
      refine lv_iconst (v := 0) hx hb d_MO_work_67 (by decide) ?_
      refine va_callv (va_runV (As := [.int p1, .int 0]) (rest := []) ⟨hx, hb, hml, hown, hts⟩ (c_MO_enter (D := D) (cs := cs) hi hq) (cwV 2 hts (good_V wC_851 wC_853 wC_26 wC_50 wC_854) rfl rfl rfl (by decide +kernel) ⟨(show 1 + 1 ≤ 5 by omega), (show 8 + (3 + 11) + 21 ≤ 112 by omega)⟩) ⟨mP_blind, va_recv hK hP (ci := 5) (q0 := 0) rfl (wd_at (by decide) rfl), fun U hU hW => ⟨rfl, by rw [hU]; exact hP, va_K.moved hW.alike hK, hN.warm hW⟩⟩ rfl rfl hl.1 rfl (lv_room (Nat.le_of_ble_eq_true rfl)) d_MO_work_68 ⟨Nat.le_of_ble_eq_true rfl, Nat.le_of_ble_eq_true rfl⟩) hS (fun q _ h => h) (fun q h => h) (fun s15 t H locs ht0 hvm hq hB hz1 hk1 hS => ?_)
      obtain ⟨hP, -, -⟩ := hB
      rw [ht0] at hP
      obtain ⟨fu, hq⟩ := hq
      exact loop_71 fu r1 s15 _ _ ls hq hP hS (lv_sub hl [0, 1, 2] rfl)
    · have hq := hq.1 c5
      refine lv_dconst0 hx hb d_MO_work_23 ?_
      exact W.dret hx hb hr (fun t ht hW => ⟨⟨FP.dconst0, s4, rfl, hq, by rw [ht]; exact hP, va_K.moved hW.alike hK, hN.warm hW⟩, hS.F ht⟩) hS.2.2 d_MO_work_24
  · have hq := hq.2 c3
    refine lv_iconst (v := 0) hx hb d_MO_work_11 (by decide) ?_
    refine lv_goto (tgt := 16) hx hb d_MO_work_12 (by decide) ?_
    refine cw_put (C := R_MO) (T := F_MO) (N := 39) (ty := .int) (v := .int 0) hx hb hts (in_MO _) t_MO tok_MO n_MO hown hK hP hi hS 0 (by decide) rfl rfl 14 (by decide) (ht _ wC_696) rfl (by decide +kernel) rfl rfl (Nat.le_of_ble_eq_true rfl) up_MO_thrown d_MO_work_16 (fun H locs hP hS => ?_)
    obtain ⟨s60, e_s60⟩ : ∃ z, z = sI s2 5 0 := ⟨_, rfl⟩
    rw [← e_s60] at hP
    have hq := hq s60 e_s60
    refine lv_iload_n hx hb d_MO_work_19 rfl (lv_at hl 0 rfl) ?_
    refine lv_if_ne (tgt := 25) hx hb d_MO_work_20 (by decide) (fun c61 => ?_) (fun c61 => ?_)
    · have hq := hq.2 c61
      refine lv_aload_n hx hb d_MO_work_25 rfl (lv_at hl 1 rfl) ?_
      refine lv_iconst (v := 0) hx hb d_MO_work_26 (by decide) ?_
      refine cw_put (C := R_MO) (T := F_MO) (N := 39) (ty := .int) (v := .int 0) hx hb hts (in_MO _) t_MO tok_MO n_MO hown hK hP hi hS 0 (by decide) rfl rfl 32 (by decide) (ht _ wC_714) rfl (by decide +kernel) rfl rfl (Nat.le_of_ble_eq_true rfl) up_MO_top d_MO_work_27 (fun H locs hP hS => ?_)
      obtain ⟨s62, e_s62⟩ : ∃ z, z = sI s60 8 0 := ⟨_, rfl⟩
      rw [← e_s62] at hP
      have hq := hq s62 e_s62
      refine lv_aload_n hx hb d_MO_work_30 rfl (lv_at hl 1 rfl) ?_
      refine lv_iconst (v := 0) hx hb d_MO_work_31 (by decide) ?_
      refine cw_put (C := R_MO) (T := F_MO) (N := 39) (ty := .int) (v := .int 0) hx hb hts (in_MO _) t_MO tok_MO n_MO hown hK hP hi hS 0 (by decide) rfl rfl 33 (by decide) (ht _ wC_715) rfl (by decide +kernel) rfl rfl (Nat.le_of_ble_eq_true rfl) up_MO_done d_MO_work_32 (fun H locs hP hS => ?_)
      obtain ⟨s63, e_s63⟩ : ∃ z, z = sI s62 9 0 := ⟨_, rfl⟩
      rw [← e_s63] at hP
      have hq := hq s63 e_s63
      refine lv_aload_n hx hb d_MO_work_35 rfl (lv_at hl 1 rfl) ?_
      refine lv_iconst (v := 0) hx hb d_MO_work_36 (by decide) ?_
      refine cw_put (C := R_MO) (T := F_MO) (N := 39) (ty := .int) (v := .int 0) hx hb hts (in_MO _) t_MO tok_MO n_MO hown hK hP hi hS 0 (by decide) rfl rfl 34 (by decide) (ht _ wC_716) rfl (by decide +kernel) rfl rfl (Nat.le_of_ble_eq_true rfl) up_MO_fault d_MO_work_37 (fun H locs hP hS => ?_)
      obtain ⟨s64, e_s64⟩ : ∃ z, z = sI s63 10 0 := ⟨_, rfl⟩
      rw [← e_s64] at hP
      have hq := hq s64 e_s64
      refine lv_aload_n hx hb d_MO_work_40 rfl (lv_at hl 1 rfl) ?_
      refine lv_iconst (v := 0) hx hb d_MO_work_41 (by decide) ?_
      refine cw_put (C := R_MO) (T := F_MO) (N := 39) (ty := .int) (v := .int 0) hx hb hts (in_MO _) t_MO tok_MO n_MO hown hK hP hi hS 0 (by decide) rfl rfl 35 (by decide) (ht _ wC_717) rfl (by decide +kernel) rfl rfl (Nat.le_of_ble_eq_true rfl) up_MO_calls d_MO_work_42 (fun H locs hP hS => ?_)
      obtain ⟨s65, e_s65⟩ : ∃ z, z = sI s64 11 0 := ⟨_, rfl⟩
      rw [← e_s65] at hP
      have hq := hq s65 e_s65
      refine lv_aload_n hx hb d_MO_work_45 rfl (lv_at hl 1 rfl) ?_
      refine lv_iconst (v := 0) hx hb d_MO_work_46 (by decide) ?_
      refine cw_put (C := R_MO) (T := F_MO) (N := 39) (ty := .int) (v := .int 0) hx hb hts (in_MO _) t_MO tok_MO n_MO hown hK hP hi hS 0 (by decide) rfl rfl 36 (by decide) (ht _ wC_718) rfl (by decide +kernel) rfl rfl (Nat.le_of_ble_eq_true rfl) up_MO_most d_MO_work_47 (fun H locs hP hS => ?_)
      obtain ⟨s66, e_s66⟩ : ∃ z, z = sI s65 12 0 := ⟨_, rfl⟩
      rw [← e_s66] at hP
      have hq := hq s66 e_s66
      refine lv_aload_n hx hb d_MO_work_50 rfl (lv_at hl 1 rfl) ?_
      refine lv_iconst (v := 0) hx hb d_MO_work_51 (by decide) ?_
      refine cw_put (C := R_MO) (T := F_MO) (N := 39) (ty := .int) (v := .int 0) hx hb hts (in_MO _) t_MO tok_MO n_MO hown hK hP hi hS 0 (by decide) rfl rfl 37 (by decide) (ht _ wC_719) rfl (by decide +kernel) rfl rfl (Nat.le_of_ble_eq_true rfl) up_MO_jumps d_MO_work_52 (fun H locs hP hS => ?_)
      obtain ⟨s67, e_s67⟩ : ∃ z, z = sI s66 13 0 := ⟨_, rfl⟩
      rw [← e_s67] at hP
      have hq := hq s67 e_s67
      refine lv_aload_n hx hb d_MO_work_55 rfl (lv_at hl 1 rfl) ?_
      refine lv_iconst (v := 0) hx hb d_MO_work_56 (by decide) ?_
      refine cw_put (C := R_MO) (T := F_MO) (N := 39) (ty := .int) (v := .int 0) hx hb hts (in_MO _) t_MO tok_MO n_MO hown hK hP hi hS 0 (by decide) rfl rfl 22 (by decide) (ht _ wC_704) rfl (by decide +kernel) rfl rfl (Nat.le_of_ble_eq_true rfl) up_MO_depth d_MO_work_57 (fun H locs hP hS => ?_)
      obtain ⟨s68, e_s68⟩ : ∃ z, z = sI s67 7 0 := ⟨_, rfl⟩
      rw [← e_s68] at hP
      have hq := hq s68 e_s68
      refine lv_aload_n hx hb d_MO_work_60 rfl (lv_at hl 1 rfl) ?_
      refine lv_iconst (v := 0) hx hb d_MO_work_61 (by decide) ?_
      refine cw_put (C := R_MO) (T := F_MO) (N := 39) (ty := .int) (v := .int 0) hx hb hts (in_MO _) t_MO tok_MO n_MO hown hK hP hi hS 0 (by decide) rfl rfl 21 (by decide) (ht _ wC_703) rfl (by decide +kernel) rfl rfl (Nat.le_of_ble_eq_true rfl) up_MO_environments d_MO_work_62 (fun H locs hP hS => ?_)
      obtain ⟨s69, e_s69⟩ : ∃ z, z = sI s68 6 0 := ⟨_, rfl⟩
      rw [← e_s69] at hP
      have hq := hq s69 e_s69
      refine lv_aload_n hx hb d_MO_work_65 rfl (lv_at hl 1 rfl) ?_
      refine lv_iload_n hx hb d_MO_work_66 rfl (lv_at hl 2 rfl) ?_
      refine lv_iconst (v := 0) hx hb d_MO_work_67 (by decide) ?_
      refine va_callv (va_runV (As := [.int p1, .int 0]) (rest := []) ⟨hx, hb, hml, hown, hts⟩ (c_MO_enter (D := D) (cs := cs) hi hq) (cwV 2 hts (good_V wC_851 wC_853 wC_26 wC_50 wC_854) rfl rfl rfl (by decide +kernel) ⟨(show 1 + 1 ≤ 5 by omega), (show 8 + (3 + 11) + 21 ≤ 112 by omega)⟩) ⟨mP_blind, va_recv hK hP (ci := 5) (q0 := 0) rfl (wd_at (by decide) rfl), fun U hU hW => ⟨rfl, by rw [hU]; exact hP, va_K.moved hW.alike hK, hN.warm hW⟩⟩ rfl rfl hl.1 rfl (lv_room (Nat.le_of_ble_eq_true rfl)) d_MO_work_68 ⟨Nat.le_of_ble_eq_true rfl, Nat.le_of_ble_eq_true rfl⟩) hS (fun q _ h => h) (fun q h => h) (fun s71 t H locs ht0 hvm hq hB hz1 hk1 hS => ?_)
      obtain ⟨hP, -, -⟩ := hB
      rw [ht0] at hP
      obtain ⟨fu, hq⟩ := hq
      exact loop_71 fu r1 s71 _ _ ls hq hP hS (lv_sub hl [0, 1, 2] rfl)
    · have hq := hq.1 c61
      refine lv_dconst0 hx hb d_MO_work_23 ?_
      exact W.dret hx hb hr (fun t ht hW => ⟨⟨FP.dconst0, s60, rfl, hq, by rw [ht]; exact hP, va_K.moved hW.alike hK, hN.warm hW⟩, hS.F ht⟩) hS.2.2 d_MO_work_24
def wp_MO_variable (p1 : Int32) (σ : CS) (Q : UInt64 → CS → Prop) : Prop := (wp_MO_within p1 0 7 σ (fun r1 s2 => ((r1 = 0 → (∀ s4 : CS, s4 = sI s2 5 1 → (((gI s4 5) ≤ 0 → (vp_in p1 8 ∧ Q (gD s4 0 p1.toNatClampNeg) s4)) ∧ (¬ (gI s4 5) ≤ 0 → Q FP.dconst0 s4)))) ∧ (¬ r1 = 0 → (∀ s6 : CS, s6 = sI s2 5 0 → (((gI s6 5) ≤ 0 → (vp_in p1 8 ∧ Q (gD s6 0 p1.toNatClampNeg) s6)) ∧ (¬ (gI s6 5) ≤ 0 → Q FP.dconst0 s6)))))))
set_option maxHeartbeats 4000000 in
set_option maxRecDepth 100000 in
theorem c_MO_variable {l : Launch} {D : va_G} {cs : CI} {am : Nat → Nat} (hi : aI am 25) {p1 : Int32} {σ : CS} {Q : UInt64 → CS → Prop} (hq : wp_MO_variable p1 σ Q) : Met l y_MO_variable (.code y_MO_variable b_MO_variable 2 (some .double) :: wC) ({ frames := 1, cells := 0, slots := 0, locals := 22 }) (va_Pc [.ref (am 0), .int p1] (mP D cs am σ)) (va_Qd Q (mP D cs am) (aK am 25)) 0 0 (aK am 25) := by
  refine Met.ofW (cc := b_MO_variable) (maxL := 2) (ret := (some .double)) (by decide) rfl ?_
  intro p e s m args below meth c s₁ B hml hv
  obtain ⟨rfl, hP, hK, hN⟩ := hv
  have hx := B.exec
  have hb := B.bytes
  have hr := B.returns
  have hts := atoms_spec (ws := .code y_MO_variable b_MO_variable 2 (some .double) :: wC) B.pre
  have ht : ∀ w ∈ wC, w.before _ s = true := fun w h => hts w (List.mem_cons_of_mem _ h)
  have hown : s.vm.findClass R_MO = some m.cls := findClass_of_methodNamed B.named
  have hlocks := B.notSynchronized
  have hS : va_S (aK am 25) s.heap s.heap [] := va_S.rf
  have hl := lv_entry ([.ref (am 0), .int p1]) (n := 2) (Nat.le_of_ble_eq_true rfl)
  rw [lg_entry_eq]
  generalize (lg_sl ([.ref (am 0), .int p1]) ++ List.replicate (2 - (lg_sl ([.ref (am 0), .int p1])).length) Slot.unset).toArray = ls at hl ⊢
  have hl : lv_has ls 2 [(0, .ref (am 0)), (1, .int p1)] := hl
  unfold wp_MO_variable at hq
  have hh8 : 8 < 9 := by decide
  refine lv_aload_n hx hb d_MO_variable_0 rfl (lv_at hl 0 rfl) ?_
  refine lv_iload_n hx hb d_MO_variable_1 rfl (lv_at hl 1 rfl) ?_
  refine lv_iconst (v := 0) hx hb d_MO_variable_2 (by decide) ?_
  refine lv_bipush (v := 7) hx hb d_MO_variable_3 (by decide) ?_
  refine va_calli (va_runS (As := [.int p1, .int 0, .int 7]) (rest := [.ref (am 0)]) ⟨hx, hb, hml, hown, hts⟩ (c_MO_within (D := D) (cs := cs) hi hq) (va_cwS 3 hts (good_S wC_812 wC_813 wC_50 wC_814) rfl rfl rfl (by decide +kernel) ⟨(show 0 + 1 ≤ 1 by omega), (show 8 + (3 + 11) + 0 ≤ 22 by omega)⟩) ⟨mP_blind, fun U hU hW => ⟨rfl, by rw [hU]; exact hP, va_K.moved hW.alike hK, hN.warm hW⟩⟩ rfl rfl hl.1 rfl (lv_room (Nat.le_of_ble_eq_true rfl)) d_MO_variable_5 ⟨Nat.le_of_ble_eq_true rfl, Nat.le_of_ble_eq_true rfl⟩) hS (fun q _ h => h) (fun q h => h) (fun r1 s2 t H locs ht0 hvm hq hB hz1 hk1 hS => ?_)
  obtain ⟨hP, -, -⟩ := hB
  rw [ht0] at hP
  refine lv_if_eq (tgt := 15) hx hb d_MO_variable_8 (by decide) (fun c3 => ?_) (fun c3 => ?_)
  · have hq := hq.1 c3
    refine lv_iconst (v := 1) hx hb d_MO_variable_15 (by decide) ?_
    refine cw_put (C := R_MO) (T := F_MO) (N := 39) (ty := .int) (v := .int 1) hx hb hts (in_MO _) t_MO tok_MO n_MO hown hK hP hi hS 0 (by decide) rfl rfl 14 (by decide) (ht _ wC_696) rfl (by decide +kernel) rfl rfl (Nat.le_of_ble_eq_true rfl) up_MO_thrown d_MO_variable_16 (fun H locs hP hS => ?_)
    obtain ⟨s4, e_s4⟩ : ∃ z, z = sI s2 5 1 := ⟨_, rfl⟩
    rw [← e_s4] at hP
    have hq := hq s4 e_s4
    refine lv_aload_n hx hb d_MO_variable_19 rfl (lv_at hl 0 rfl) ?_
    refine cw_get (C := R_MO) (T := F_MO) (N := 39) (v := .int (gI s4 5)) hx hb hts (in_MO _) hown hK hP 0 (by decide) rfl rfl 14 (by decide) (ht _ wC_696) rfl d_MO_variable_20 ?_
    refine lv_if_le (tgt := 30) hx hb d_MO_variable_23 (by decide) (fun c5 => ?_) (fun c5 => ?_)
    · have hq := hq.1 c5
      refine lv_aload_n hx hb d_MO_variable_30 rfl (lv_at hl 0 rfl) ?_
      refine cw_get (C := R_MO) (T := F_MO) (N := 39) (v := .ref (am 8)) hx hb hts (in_MO _) hown hK hP 0 (by decide) rfl rfl 7 (by decide) (ht _ wC_689) rfl d_MO_variable_31 ?_
      refine lv_iload_n hx hb d_MO_variable_34 rfl (lv_at hl 1 rfl) ?_
      refine cw_dald hx hb hK hP 8 (by decide) rfl 1 rfl hq.1 d_MO_variable_35 ?_
      have hq := hq.2
      exact W.dret hx hb hr (fun t ht hW => ⟨⟨(gD s4 0 p1.toNatClampNeg), s4, rfl, hq, by rw [ht]; exact hP, va_K.moved hW.alike hK, hN.warm hW⟩, hS.F ht⟩) hS.2.2 d_MO_variable_36
    · have hq := hq.2 c5
      refine lv_dconst0 hx hb d_MO_variable_26 ?_
      refine lv_goto (tgt := 36) hx hb d_MO_variable_27 (by decide) ?_
      exact W.dret hx hb hr (fun t ht hW => ⟨⟨FP.dconst0, s4, rfl, hq, by rw [ht]; exact hP, va_K.moved hW.alike hK, hN.warm hW⟩, hS.F ht⟩) hS.2.2 d_MO_variable_36
  · have hq := hq.2 c3
    refine lv_iconst (v := 0) hx hb d_MO_variable_11 (by decide) ?_
    refine lv_goto (tgt := 16) hx hb d_MO_variable_12 (by decide) ?_
    refine cw_put (C := R_MO) (T := F_MO) (N := 39) (ty := .int) (v := .int 0) hx hb hts (in_MO _) t_MO tok_MO n_MO hown hK hP hi hS 0 (by decide) rfl rfl 14 (by decide) (ht _ wC_696) rfl (by decide +kernel) rfl rfl (Nat.le_of_ble_eq_true rfl) up_MO_thrown d_MO_variable_16 (fun H locs hP hS => ?_)
    obtain ⟨s6, e_s6⟩ : ∃ z, z = sI s2 5 0 := ⟨_, rfl⟩
    rw [← e_s6] at hP
    have hq := hq s6 e_s6
    refine lv_aload_n hx hb d_MO_variable_19 rfl (lv_at hl 0 rfl) ?_
    refine cw_get (C := R_MO) (T := F_MO) (N := 39) (v := .int (gI s6 5)) hx hb hts (in_MO _) hown hK hP 0 (by decide) rfl rfl 14 (by decide) (ht _ wC_696) rfl d_MO_variable_20 ?_
    refine lv_if_le (tgt := 30) hx hb d_MO_variable_23 (by decide) (fun c7 => ?_) (fun c7 => ?_)
    · have hq := hq.1 c7
      refine lv_aload_n hx hb d_MO_variable_30 rfl (lv_at hl 0 rfl) ?_
      refine cw_get (C := R_MO) (T := F_MO) (N := 39) (v := .ref (am 8)) hx hb hts (in_MO _) hown hK hP 0 (by decide) rfl rfl 7 (by decide) (ht _ wC_689) rfl d_MO_variable_31 ?_
      refine lv_iload_n hx hb d_MO_variable_34 rfl (lv_at hl 1 rfl) ?_
      refine cw_dald hx hb hK hP 8 (by decide) rfl 1 rfl hq.1 d_MO_variable_35 ?_
      have hq := hq.2
      exact W.dret hx hb hr (fun t ht hW => ⟨⟨(gD s6 0 p1.toNatClampNeg), s6, rfl, hq, by rw [ht]; exact hP, va_K.moved hW.alike hK, hN.warm hW⟩, hS.F ht⟩) hS.2.2 d_MO_variable_36
    · have hq := hq.2 c7
      refine lv_dconst0 hx hb d_MO_variable_26 ?_
      refine lv_goto (tgt := 36) hx hb d_MO_variable_27 (by decide) ?_
      exact W.dret hx hb hr (fun t ht hW => ⟨⟨FP.dconst0, s6, rfl, hq, by rw [ht]; exact hP, va_K.moved hW.alike hK, hN.warm hW⟩, hS.F ht⟩) hS.2.2 d_MO_variable_36
def wp_MO_element (p1 : Int32) (p2 : Int32) (σ : CS) (Q : UInt64 → CS → Prop) : Prop := (wp_MO_place (FP.i2d p1) (FP.i2d p2) σ (fun r1 s2 => ((0 ≤ r1 → (∀ s4 : CS, s4 = sI s2 5 0 → (((gI s4 5) ≤ 0 → (vp_in r1 25 ∧ Q (gD s4 1 r1.toNatClampNeg) s4)) ∧ (¬ (gI s4 5) ≤ 0 → Q FP.dconst0 s4)))) ∧ (¬ 0 ≤ r1 → (∀ s6 : CS, s6 = sI s2 5 1 → (((gI s6 5) ≤ 0 → (vp_in r1 25 ∧ Q (gD s6 1 r1.toNatClampNeg) s6)) ∧ (¬ (gI s6 5) ≤ 0 → Q FP.dconst0 s6)))))))
set_option maxHeartbeats 4000000 in
set_option maxRecDepth 100000 in
theorem c_MO_element {l : Launch} {D : va_G} {cs : CI} {am : Nat → Nat} (hi : aI am 25) {p1 : Int32} {p2 : Int32} {σ : CS} {Q : UInt64 → CS → Prop} (hq : wp_MO_element p1 p2 σ Q) : Met l y_MO_element (.code y_MO_element b_MO_element 4 (some .double) :: wC) ({ frames := 1, cells := 0, slots := 0, locals := 24 }) (va_Pc [.ref (am 0), .int p1, .int p2] (mP D cs am σ)) (va_Qd Q (mP D cs am) (aK am 25)) 0 0 (aK am 25) := by
  refine Met.ofW (cc := b_MO_element) (maxL := 4) (ret := (some .double)) (by decide) rfl ?_
  intro p e s m args below meth c s₁ B hml hv
  obtain ⟨rfl, hP, hK, hN⟩ := hv
  have hx := B.exec
  have hb := B.bytes
  have hr := B.returns
  have hts := atoms_spec (ws := .code y_MO_element b_MO_element 4 (some .double) :: wC) B.pre
  have ht : ∀ w ∈ wC, w.before _ s = true := fun w h => hts w (List.mem_cons_of_mem _ h)
  have hown : s.vm.findClass R_MO = some m.cls := findClass_of_methodNamed B.named
  have hlocks := B.notSynchronized
  have hS : va_S (aK am 25) s.heap s.heap [] := va_S.rf
  have hl := lv_entry ([.ref (am 0), .int p1, .int p2]) (n := 4) (Nat.le_of_ble_eq_true rfl)
  rw [lg_entry_eq]
  generalize (lg_sl ([.ref (am 0), .int p1, .int p2]) ++ List.replicate (4 - (lg_sl ([.ref (am 0), .int p1, .int p2])).length) Slot.unset).toArray = ls at hl ⊢
  have hl : lv_has ls 4 [(0, .ref (am 0)), (1, .int p1), (2, .int p2)] := hl
  unfold wp_MO_element at hq
  have hh8 : 8 < 9 := by decide
  refine lv_aload_n hx hb d_MO_element_0 rfl (lv_at hl 0 rfl) ?_
  refine lv_iload_n hx hb d_MO_element_1 rfl (lv_at hl 1 rfl) ?_
  refine lv_i2d hx hb d_MO_element_2 ?_
  refine lv_iload_n hx hb d_MO_element_3 rfl (lv_at hl 2 rfl) ?_
  refine lv_i2d hx hb d_MO_element_4 ?_
  refine va_calli (va_runV (As := [.double (FP.i2d p1), .double (FP.i2d p2)]) (rest := []) ⟨hx, hb, hml, hown, hts⟩ (c_MO_place (D := D) (cs := cs) hi hq) (cwV 2 hts (good_V wC_903 wC_905 wC_38 wC_50 wC_906) rfl rfl rfl (by decide +kernel) ⟨(show 0 + 1 ≤ 1 by omega), (show 8 + (5 + 11) + 0 ≤ 24 by omega)⟩) ⟨mP_blind, va_recv hK hP (ci := 5) (q0 := 0) rfl (wd_at (by decide) rfl), fun U hU hW => ⟨rfl, by rw [hU]; exact hP, va_K.moved hW.alike hK, hN.warm hW⟩⟩ rfl rfl hl.1 rfl (lv_room (Nat.le_of_ble_eq_true rfl)) d_MO_element_5 ⟨Nat.le_of_ble_eq_true rfl, Nat.le_of_ble_eq_true rfl⟩) hS (fun q _ h => h) (fun q h => h) (fun r1 s2 t H locs ht0 hvm hq hB hz1 hk1 hS => ?_)
  obtain ⟨hP, -, -⟩ := hB
  rw [ht0] at hP
  refine lv_istore_n (lv' := [(3, .int r1), (0, .ref (am 0)), (1, .int p1), (2, .int p2)]) hx hb d_MO_element_8 rfl hl (by decide) rfl (fun ls hl => ?_)
  refine lv_aload_n hx hb d_MO_element_9 rfl (lv_at hl 1 rfl) ?_
  refine lv_iload_n hx hb d_MO_element_10 rfl (lv_at hl 0 rfl) ?_
  refine lv_if_ge (tgt := 18) hx hb d_MO_element_11 (by decide) (fun c3 => ?_) (fun c3 => ?_)
  · have hq := hq.1 c3
    refine lv_iconst (v := 0) hx hb d_MO_element_18 (by decide) ?_
    refine cw_put (C := R_MO) (T := F_MO) (N := 39) (ty := .int) (v := .int 0) hx hb hts (in_MO _) t_MO tok_MO n_MO hown hK hP hi hS 0 (by decide) rfl rfl 14 (by decide) (ht _ wC_696) rfl (by decide +kernel) rfl rfl (Nat.le_of_ble_eq_true rfl) up_MO_thrown d_MO_element_19 (fun H locs hP hS => ?_)
    obtain ⟨s4, e_s4⟩ : ∃ z, z = sI s2 5 0 := ⟨_, rfl⟩
    rw [← e_s4] at hP
    have hq := hq s4 e_s4
    refine lv_aload_n hx hb d_MO_element_22 rfl (lv_at hl 1 rfl) ?_
    refine cw_get (C := R_MO) (T := F_MO) (N := 39) (v := .int (gI s4 5)) hx hb hts (in_MO _) hown hK hP 0 (by decide) rfl rfl 14 (by decide) (ht _ wC_696) rfl d_MO_element_23 ?_
    refine lv_if_le (tgt := 33) hx hb d_MO_element_26 (by decide) (fun c5 => ?_) (fun c5 => ?_)
    · have hq := hq.1 c5
      refine lv_aload_n hx hb d_MO_element_33 rfl (lv_at hl 1 rfl) ?_
      refine cw_get (C := R_MO) (T := F_MO) (N := 39) (v := .ref (am 9)) hx hb hts (in_MO _) hown hK hP 0 (by decide) rfl rfl 8 (by decide) (ht _ wC_690) rfl d_MO_element_34 ?_
      refine lv_iload_n hx hb d_MO_element_37 rfl (lv_at hl 0 rfl) ?_
      refine cw_dald hx hb hK hP 9 (by decide) rfl 1 rfl hq.1 d_MO_element_38 ?_
      have hq := hq.2
      exact W.dret hx hb hr (fun t ht hW => ⟨⟨(gD s4 1 r1.toNatClampNeg), s4, rfl, hq, by rw [ht]; exact hP, va_K.moved hW.alike hK, hN.warm hW⟩, hS.F ht⟩) hS.2.2 d_MO_element_39
    · have hq := hq.2 c5
      refine lv_dconst0 hx hb d_MO_element_29 ?_
      refine lv_goto (tgt := 39) hx hb d_MO_element_30 (by decide) ?_
      exact W.dret hx hb hr (fun t ht hW => ⟨⟨FP.dconst0, s4, rfl, hq, by rw [ht]; exact hP, va_K.moved hW.alike hK, hN.warm hW⟩, hS.F ht⟩) hS.2.2 d_MO_element_39
  · have hq := hq.2 c3
    refine lv_iconst (v := 1) hx hb d_MO_element_14 (by decide) ?_
    refine lv_goto (tgt := 19) hx hb d_MO_element_15 (by decide) ?_
    refine cw_put (C := R_MO) (T := F_MO) (N := 39) (ty := .int) (v := .int 1) hx hb hts (in_MO _) t_MO tok_MO n_MO hown hK hP hi hS 0 (by decide) rfl rfl 14 (by decide) (ht _ wC_696) rfl (by decide +kernel) rfl rfl (Nat.le_of_ble_eq_true rfl) up_MO_thrown d_MO_element_19 (fun H locs hP hS => ?_)
    obtain ⟨s6, e_s6⟩ : ∃ z, z = sI s2 5 1 := ⟨_, rfl⟩
    rw [← e_s6] at hP
    have hq := hq s6 e_s6
    refine lv_aload_n hx hb d_MO_element_22 rfl (lv_at hl 1 rfl) ?_
    refine cw_get (C := R_MO) (T := F_MO) (N := 39) (v := .int (gI s6 5)) hx hb hts (in_MO _) hown hK hP 0 (by decide) rfl rfl 14 (by decide) (ht _ wC_696) rfl d_MO_element_23 ?_
    refine lv_if_le (tgt := 33) hx hb d_MO_element_26 (by decide) (fun c7 => ?_) (fun c7 => ?_)
    · have hq := hq.1 c7
      refine lv_aload_n hx hb d_MO_element_33 rfl (lv_at hl 1 rfl) ?_
      refine cw_get (C := R_MO) (T := F_MO) (N := 39) (v := .ref (am 9)) hx hb hts (in_MO _) hown hK hP 0 (by decide) rfl rfl 8 (by decide) (ht _ wC_690) rfl d_MO_element_34 ?_
      refine lv_iload_n hx hb d_MO_element_37 rfl (lv_at hl 0 rfl) ?_
      refine cw_dald hx hb hK hP 9 (by decide) rfl 1 rfl hq.1 d_MO_element_38 ?_
      have hq := hq.2
      exact W.dret hx hb hr (fun t ht hW => ⟨⟨(gD s6 1 r1.toNatClampNeg), s6, rfl, hq, by rw [ht]; exact hP, va_K.moved hW.alike hK, hN.warm hW⟩, hS.F ht⟩) hS.2.2 d_MO_element_39
    · have hq := hq.2 c7
      refine lv_dconst0 hx hb d_MO_element_29 ?_
      refine lv_goto (tgt := 39) hx hb d_MO_element_30 (by decide) ?_
      exact W.dret hx hb hr (fun t ht hW => ⟨⟨FP.dconst0, s6, rfl, hq, by rw [ht]; exact hP, va_K.moved hW.alike hK, hN.warm hW⟩, hS.F ht⟩) hS.2.2 d_MO_element_39
def wp_MO_node (p1 : Int32) (p2 : Int32) (σ : CS) (Q : Int32 → CS → Prop) : Prop := (wp_MO_within p2 0 3 σ (fun r1 s2 => ((r1 = 0 → (wp_MO_fail 1 s2 (fun r13 s14 => Q r13 s14))) ∧ (¬ r1 = 0 → (wp_MO_isNode p1 s2 (fun r4 s5 => ((r4 = 0 → (wp_MO_fail 2 s5 (fun r11 s12 => Q r11 s12))) ∧ (¬ r4 = 0 → (∀ s7 : CS, s7 = sI s5 5 0 → ((p2 = 0 → (vp_in p1 48 ∧ Q (gA s7 0 p1.toNatClampNeg) s7)) ∧ (¬ p2 = 0 → ((p2 = 1 → (vp_in p1 48 ∧ Q (gA s7 1 p1.toNatClampNeg) s7)) ∧ (¬ p2 = 1 → ((p2 = 2 → (vp_in p1 48 ∧ Q (gA s7 2 p1.toNatClampNeg) s7)) ∧ (¬ p2 = 2 → (vp_in p1 48 ∧ Q (gA s7 3 p1.toNatClampNeg) s7))))))))))))))))
set_option maxHeartbeats 4000000 in
set_option maxRecDepth 100000 in
theorem c_MO_node {l : Launch} {D : va_G} {cs : CI} {am : Nat → Nat} (hi : aI am 25) {p1 : Int32} {p2 : Int32} {σ : CS} {Q : Int32 → CS → Prop} (hq : wp_MO_node p1 p2 σ Q) : Met l y_MO_node (.code y_MO_node b_MO_node 4 (some .int) :: wC) ({ frames := 2, cells := 0, slots := 0, locals := 43 }) (va_Pc [.ref (am 0), .int p1, .int p2] (mP D cs am σ)) (va_Qi Q (mP D cs am) (aK am 25)) 0 0 (aK am 25) := by
  refine Met.ofW (cc := b_MO_node) (maxL := 4) (ret := (some .int)) (by decide) rfl ?_
  intro p e s m args below meth c s₁ B hml hv
  obtain ⟨rfl, hP, hK, hN⟩ := hv
  have hx := B.exec
  have hb := B.bytes
  have hr := B.returns
  have hts := atoms_spec (ws := .code y_MO_node b_MO_node 4 (some .int) :: wC) B.pre
  have ht : ∀ w ∈ wC, w.before _ s = true := fun w h => hts w (List.mem_cons_of_mem _ h)
  have hown : s.vm.findClass R_MO = some m.cls := findClass_of_methodNamed B.named
  have hlocks := B.notSynchronized
  have hS : va_S (aK am 25) s.heap s.heap [] := va_S.rf
  have hl := lv_entry ([.ref (am 0), .int p1, .int p2]) (n := 4) (Nat.le_of_ble_eq_true rfl)
  rw [lg_entry_eq]
  generalize (lg_sl ([.ref (am 0), .int p1, .int p2]) ++ List.replicate (4 - (lg_sl ([.ref (am 0), .int p1, .int p2])).length) Slot.unset).toArray = ls at hl ⊢
  have hl : lv_has ls 4 [(0, .ref (am 0)), (1, .int p1), (2, .int p2)] := hl
  unfold wp_MO_node at hq
  have hh8 : 8 < 9 := by decide
  refine lv_iload_n hx hb d_MO_node_0 rfl (lv_at hl 2 rfl) ?_
  refine lv_iconst (v := 0) hx hb d_MO_node_1 (by decide) ?_
  refine lv_iconst (v := 3) hx hb d_MO_node_2 (by decide) ?_
  refine va_calli (va_runS (As := [.int p2, .int 0, .int 3]) (rest := []) ⟨hx, hb, hml, hown, hts⟩ (c_MO_within (D := D) (cs := cs) hi hq) (va_cwS 3 hts (good_S wC_812 wC_813 wC_50 wC_814) rfl rfl rfl (by decide +kernel) ⟨(show 0 + 1 ≤ 2 by omega), (show 8 + (3 + 11) + 0 ≤ 43 by omega)⟩) ⟨mP_blind, fun U hU hW => ⟨rfl, by rw [hU]; exact hP, va_K.moved hW.alike hK, hN.warm hW⟩⟩ rfl rfl hl.1 rfl (lv_room (Nat.le_of_ble_eq_true rfl)) d_MO_node_3 ⟨Nat.le_of_ble_eq_true rfl, Nat.le_of_ble_eq_true rfl⟩) hS (fun q _ h => h) (fun q h => h) (fun r1 s2 t H locs ht0 hvm hq hB hz1 hk1 hS => ?_)
  obtain ⟨hP, -, -⟩ := hB
  rw [ht0] at hP
  refine lv_if_ne (tgt := 15) hx hb d_MO_node_6 (by decide) (fun c3 => ?_) (fun c3 => ?_)
  · have hq := hq.2 c3
    refine lv_aload_n hx hb d_MO_node_15 rfl (lv_at hl 0 rfl) ?_
    refine lv_iload_n hx hb d_MO_node_16 rfl (lv_at hl 1 rfl) ?_
    refine va_calli (va_runV (As := [.int p1]) (rest := []) ⟨hx, hb, hml, hown, hts⟩ (c_MO_isNode (D := D) (cs := cs) hi hq) (cwV 1 hts (good_V wC_815 wC_817 wC_24 wC_50 wC_818) rfl rfl rfl (by decide +kernel) ⟨(show 1 + 1 ≤ 2 by omega), (show 8 + (2 + 11) + 22 ≤ 43 by omega)⟩) ⟨mP_blind, va_recv hK hP (ci := 5) (q0 := 0) rfl (wd_at (by decide) rfl), fun U hU hW => ⟨rfl, by rw [hU]; exact hP, va_K.moved hW.alike hK, hN.warm hW⟩⟩ rfl rfl hl.1 rfl (lv_room (Nat.le_of_ble_eq_true rfl)) d_MO_node_17 ⟨Nat.le_of_ble_eq_true rfl, Nat.le_of_ble_eq_true rfl⟩) hS (fun q _ h => h) (fun q h => h) (fun r4 s5 t H locs ht0 hvm hq hB hz1 hk1 hS => ?_)
    obtain ⟨hP, -, -⟩ := hB
    rw [ht0] at hP
    refine lv_istore_n (lv' := [(3, .int r4), (0, .ref (am 0)), (1, .int p1), (2, .int p2)]) hx hb d_MO_node_20 rfl hl (by decide) rfl (fun ls hl => ?_)
    refine lv_iload_n hx hb d_MO_node_21 rfl (lv_at hl 0 rfl) ?_
    refine lv_if_ne (tgt := 31) hx hb d_MO_node_22 (by decide) (fun c6 => ?_) (fun c6 => ?_)
    · have hq := hq.2 c6
      refine lv_aload_n hx hb d_MO_node_31 rfl (lv_at hl 1 rfl) ?_
      refine lv_iconst (v := 0) hx hb d_MO_node_32 (by decide) ?_
      refine cw_put (C := R_MO) (T := F_MO) (N := 39) (ty := .int) (v := .int 0) hx hb hts (in_MO _) t_MO tok_MO n_MO hown hK hP hi hS 0 (by decide) rfl rfl 14 (by decide) (ht _ wC_696) rfl (by decide +kernel) rfl rfl (Nat.le_of_ble_eq_true rfl) up_MO_thrown d_MO_node_33 (fun H locs hP hS => ?_)
      obtain ⟨s7, e_s7⟩ : ∃ z, z = sI s5 5 0 := ⟨_, rfl⟩
      rw [← e_s7] at hP
      have hq := hq s7 e_s7
      refine lv_iload_n hx hb d_MO_node_36 rfl (lv_at hl 3 rfl) ?_
      refine lv_if_ne (tgt := 49) hx hb d_MO_node_37 (by decide) (fun c8 => ?_) (fun c8 => ?_)
      · have hq := hq.2 c8
        refine lv_iload_n hx hb d_MO_node_49 rfl (lv_at hl 3 rfl) ?_
        refine lv_iconst (v := 1) hx hb d_MO_node_50 (by decide) ?_
        refine lv_icmp_ne (tgt := 63) hx hb d_MO_node_51 (by decide) (fun c9 => ?_) (fun c9 => ?_)
        · have hq := hq.2 c9
          refine lv_iload_n hx hb d_MO_node_63 rfl (lv_at hl 3 rfl) ?_
          refine lv_iconst (v := 2) hx hb d_MO_node_64 (by decide) ?_
          refine lv_icmp_ne (tgt := 77) hx hb d_MO_node_65 (by decide) (fun c10 => ?_) (fun c10 => ?_)
          · have hq := hq.2 c10
            refine lv_aload_n hx hb d_MO_node_77 rfl (lv_at hl 1 rfl) ?_
            refine cw_get (C := R_MO) (T := F_MO) (N := 39) (v := .ref (am 4)) hx hb hts (in_MO _) hown hK hP 0 (by decide) rfl rfl 3 (by decide) (ht _ wC_685) rfl d_MO_node_78 ?_
            refine lv_iload_n hx hb d_MO_node_81 rfl (lv_at hl 2 rfl) ?_
            refine cw_iald hx hb hK hP 4 (by decide) rfl 0 rfl hq.1 d_MO_node_82 ?_
            have hq := hq.2
            exact W.iret hx hb hr (fun t ht hW => ⟨⟨(gA s7 3 p1.toNatClampNeg), s7, rfl, hq, by rw [ht]; exact hP, va_K.moved hW.alike hK, hN.warm hW⟩, hS.F ht⟩) hS.2.2 d_MO_node_83
          · have hq := hq.1 c10
            refine lv_aload_n hx hb d_MO_node_68 rfl (lv_at hl 1 rfl) ?_
            refine cw_get (C := R_MO) (T := F_MO) (N := 39) (v := .ref (am 3)) hx hb hts (in_MO _) hown hK hP 0 (by decide) rfl rfl 2 (by decide) (ht _ wC_684) rfl d_MO_node_69 ?_
            refine lv_iload_n hx hb d_MO_node_72 rfl (lv_at hl 2 rfl) ?_
            refine cw_iald hx hb hK hP 3 (by decide) rfl 0 rfl hq.1 d_MO_node_73 ?_
            have hq := hq.2
            refine lv_goto (tgt := 83) hx hb d_MO_node_74 (by decide) ?_
            exact W.iret hx hb hr (fun t ht hW => ⟨⟨(gA s7 2 p1.toNatClampNeg), s7, rfl, hq, by rw [ht]; exact hP, va_K.moved hW.alike hK, hN.warm hW⟩, hS.F ht⟩) hS.2.2 d_MO_node_83
        · have hq := hq.1 c9
          refine lv_aload_n hx hb d_MO_node_54 rfl (lv_at hl 1 rfl) ?_
          refine cw_get (C := R_MO) (T := F_MO) (N := 39) (v := .ref (am 2)) hx hb hts (in_MO _) hown hK hP 0 (by decide) rfl rfl 1 (by decide) (ht _ wC_683) rfl d_MO_node_55 ?_
          refine lv_iload_n hx hb d_MO_node_58 rfl (lv_at hl 2 rfl) ?_
          refine cw_iald hx hb hK hP 2 (by decide) rfl 0 rfl hq.1 d_MO_node_59 ?_
          have hq := hq.2
          refine lv_goto (tgt := 83) hx hb d_MO_node_60 (by decide) ?_
          exact W.iret hx hb hr (fun t ht hW => ⟨⟨(gA s7 1 p1.toNatClampNeg), s7, rfl, hq, by rw [ht]; exact hP, va_K.moved hW.alike hK, hN.warm hW⟩, hS.F ht⟩) hS.2.2 d_MO_node_83
      · have hq := hq.1 c8
        refine lv_aload_n hx hb d_MO_node_40 rfl (lv_at hl 1 rfl) ?_
        refine cw_get (C := R_MO) (T := F_MO) (N := 39) (v := .ref (am 1)) hx hb hts (in_MO _) hown hK hP 0 (by decide) rfl rfl 0 (by decide) (ht _ wC_682) rfl d_MO_node_41 ?_
        refine lv_iload_n hx hb d_MO_node_44 rfl (lv_at hl 2 rfl) ?_
        refine cw_iald hx hb hK hP 1 (by decide) rfl 0 rfl hq.1 d_MO_node_45 ?_
        have hq := hq.2
        refine lv_goto (tgt := 83) hx hb d_MO_node_46 (by decide) ?_
        exact W.iret hx hb hr (fun t ht hW => ⟨⟨(gA s7 0 p1.toNatClampNeg), s7, rfl, hq, by rw [ht]; exact hP, va_K.moved hW.alike hK, hN.warm hW⟩, hS.F ht⟩) hS.2.2 d_MO_node_83
    · have hq := hq.1 c6
      refine lv_aload_n hx hb d_MO_node_25 rfl (lv_at hl 1 rfl) ?_
      refine lv_iconst (v := 2) hx hb d_MO_node_26 (by decide) ?_
      refine va_calli (va_runV (As := [.int 2]) (rest := []) ⟨hx, hb, hml, hown, hts⟩ (c_MO_fail (D := D) (cs := cs) hi hq) (cwV 1 hts (good_V wC_819 wC_821 wC_25 wC_50 wC_822) rfl rfl rfl (by decide +kernel) ⟨(show 0 + 1 ≤ 2 by omega), (show 8 + (2 + 11) + 0 ≤ 43 by omega)⟩) ⟨mP_blind, va_recv hK hP (ci := 5) (q0 := 0) rfl (wd_at (by decide) rfl), fun U hU hW => ⟨rfl, by rw [hU]; exact hP, va_K.moved hW.alike hK, hN.warm hW⟩⟩ rfl rfl hl.1 rfl (lv_room (Nat.le_of_ble_eq_true rfl)) d_MO_node_27 ⟨Nat.le_of_ble_eq_true rfl, Nat.le_of_ble_eq_true rfl⟩) hS (fun q _ h => h) (fun q h => h) (fun r11 s12 t H locs ht0 hvm hq hB hz1 hk1 hS => ?_)
      obtain ⟨hP, -, -⟩ := hB
      rw [ht0] at hP
      exact W.iret hx hb hr (fun t ht hW => ⟨⟨r11, s12, rfl, hq, by rw [ht]; exact hP, va_K.moved hW.alike hK, hN.warm hW⟩, hS.F ht⟩) hS.2.2 d_MO_node_30
  · have hq := hq.1 c3
    refine lv_aload_n hx hb d_MO_node_9 rfl (lv_at hl 0 rfl) ?_
    refine lv_iconst (v := 1) hx hb d_MO_node_10 (by decide) ?_
    refine va_calli (va_runV (As := [.int 1]) (rest := []) ⟨hx, hb, hml, hown, hts⟩ (c_MO_fail (D := D) (cs := cs) hi hq) (cwV 1 hts (good_V wC_819 wC_821 wC_25 wC_50 wC_822) rfl rfl rfl (by decide +kernel) ⟨(show 0 + 1 ≤ 2 by omega), (show 8 + (2 + 11) + 0 ≤ 43 by omega)⟩) ⟨mP_blind, va_recv hK hP (ci := 5) (q0 := 0) rfl (wd_at (by decide) rfl), fun U hU hW => ⟨rfl, by rw [hU]; exact hP, va_K.moved hW.alike hK, hN.warm hW⟩⟩ rfl rfl hl.1 rfl (lv_room (Nat.le_of_ble_eq_true rfl)) d_MO_node_11 ⟨Nat.le_of_ble_eq_true rfl, Nat.le_of_ble_eq_true rfl⟩) hS (fun q _ h => h) (fun q h => h) (fun r13 s14 t H locs ht0 hvm hq hB hz1 hk1 hS => ?_)
    obtain ⟨hP, -, -⟩ := hB
    rw [ht0] at hP
    exact W.iret hx hb hr (fun t ht hW => ⟨⟨r13, s14, rfl, hq, by rw [ht]; exact hP, va_K.moved hW.alike hK, hN.warm hW⟩, hS.F ht⟩) hS.2.2 d_MO_node_14
def lp_MO_clear_17  (Q : Int32 → CS → Prop) : Nat → Int32 → Int32 → CS → Prop
  | 0 => fun _ _ _ => False
  | k + 1 => fun x2 x1 σ => ((4 ≤ x2 → Q x1 σ) ∧ (¬ 4 ≤ x2 → (vp_in x2 4 ∧ (∀ s4 : CS, s4 = sA σ 4 (upd (gA σ 4) x2.toNatClampNeg (-1)) → lp_MO_clear_17 Q k (x2 + 1) x1 s4))))
def wp_MO_clear  (σ : CS) (Q : Int32 → CS → Prop) : Prop := (∀ s1 : CS, s1 = sI σ 5 0 → (∀ s2 : CS, s2 = sI s1 0 0 → (∃ fu : Nat, lp_MO_clear_17 Q fu 0 (gI s1 0) s2)))
set_option maxHeartbeats 4000000 in
set_option maxRecDepth 100000 in
theorem c_MO_clear {l : Launch} {D : va_G} {cs : CI} {am : Nat → Nat} (hi : aI am 25)  {σ : CS} {Q : Int32 → CS → Prop} (hq : wp_MO_clear  σ Q) : Met l y_MO_clear (.code y_MO_clear b_MO_clear 3 (some .int) :: wC) ({ frames := 0, cells := 0, slots := 0, locals := 0 }) (va_Pc [.ref (am 0)] (mP D cs am σ)) (va_Qi Q (mP D cs am) (aK am 25)) 0 0 (aK am 25) := by
  refine Met.ofW (cc := b_MO_clear) (maxL := 3) (ret := (some .int)) (by decide) rfl ?_
  intro p e s m args below meth c s₁ B hml hv
  obtain ⟨rfl, hP, hK, hN⟩ := hv
  have hx := B.exec
  have hb := B.bytes
  have hr := B.returns
  have hts := atoms_spec (ws := .code y_MO_clear b_MO_clear 3 (some .int) :: wC) B.pre
  have ht : ∀ w ∈ wC, w.before _ s = true := fun w h => hts w (List.mem_cons_of_mem _ h)
  have hown : s.vm.findClass R_MO = some m.cls := findClass_of_methodNamed B.named
  have hlocks := B.notSynchronized
  have hS : va_S (aK am 25) s.heap s.heap [] := va_S.rf
  have hl := lv_entry ([.ref (am 0)]) (n := 3) (Nat.le_of_ble_eq_true rfl)
  rw [lg_entry_eq]
  generalize (lg_sl ([.ref (am 0)]) ++ List.replicate (3 - (lg_sl ([.ref (am 0)])).length) Slot.unset).toArray = ls at hl ⊢
  have hl : lv_has ls 3 [(0, .ref (am 0))] := hl
  unfold wp_MO_clear at hq
  have hh8 : 8 < 9 := by decide
  have loop_17 : ∀ (k : Nat) (x2 : Int32) (x1 : Int32) (σ : CS) (H : Heap) (locs : List Loc) (ls : Array Slot), lp_MO_clear_17 Q k x2 x1 σ → va_P D clA (wd am (contM am cs σ) 25) H → va_S (aK am 25) s.heap H locs → lv_has ls 3 [(2, .int x2), (1, .int x1), (0, .ref (am 0))] → W p l e (headSpec (.code y_MO_clear b_MO_clear 3 (some .int) :: wC) ({ frames := 0, cells := 0, slots := 0, locals := 0 })).room s m ([.ref (am 0)] : List Value).toArray below meth c H locs 0 0 (MQ below (va_Qi Q (mP D cs am) (aK am 25)) ([.ref (am 0)] : List Value).toArray s 0 0 (aK am 25)) (F0 m 17 ls []) := by
    intro k
    induction k with
    | zero => intro x2 x1 σ H locs ls hq; exact hq.elim
    | succ k ih =>
      intro x2 x1 σ H locs ls hq hP hS hl
      unfold lp_MO_clear_17 at hq
      refine lv_iload_n hx hb d_MO_clear_17 rfl (lv_at hl 0 rfl) ?_
      refine lv_iconst (v := 4) hx hb d_MO_clear_18 (by decide) ?_
      refine lv_icmp_ge (tgt := 35) hx hb d_MO_clear_19 (by decide) (fun c3 => ?_) (fun c3 => ?_)
      · have hq := hq.1 c3
        refine lv_iload_n hx hb d_MO_clear_35 rfl (lv_at hl 1 rfl) ?_
        exact W.iret hx hb hr (fun t ht hW => ⟨⟨x1, σ, rfl, hq, by rw [ht]; exact hP, va_K.moved hW.alike hK, hN.warm hW⟩, hS.F ht⟩) hS.2.2 d_MO_clear_36
      · have hq := hq.2 c3
        refine lv_aload_n hx hb d_MO_clear_22 rfl (lv_at hl 2 rfl) ?_
        refine cw_get (C := R_MO) (T := F_MO) (N := 39) (v := .ref (am 5)) hx hb hts (in_MO _) hown hK hP 0 (by decide) rfl rfl 4 (by decide) (ht _ wC_686) rfl d_MO_clear_23 ?_
        refine lv_iload_n hx hb d_MO_clear_26 rfl (lv_at hl 0 rfl) ?_
        refine lv_iconst (v := (-1)) hx hb d_MO_clear_27 (by decide) ?_
        refine cw_iast hx hb hK hP hi hS 5 (by decide) rfl 0 rfl hq.1 mpa_4 d_MO_clear_28 (fun H locs hP hS => ?_)
        have hq := hq.2
        obtain ⟨s4, e_s4⟩ : ∃ z, z = sA σ 4 (upd (gA σ 4) x2.toNatClampNeg (-1)) := ⟨_, rfl⟩
        rw [← e_s4] at hP
        have hq := hq s4 e_s4
        refine lv_iinc (v := x2 + 1) (lv' := [(2, .int (x2 + 1)), (1, .int x1), (0, .ref (am 0))]) hx hb d_MO_clear_29 hl (k := 0) rfl rfl (by decide) rfl (fun ls hl => ?_)
        refine lv_goto (tgt := 17) hx hb d_MO_clear_32 (by decide) ?_
        exact ih (x2 + 1) x1 s4 _ _ ls hq hP hS (lv_sub hl [0, 1, 2] rfl)
  refine lv_aload_n hx hb d_MO_clear_0 rfl (lv_at hl 0 rfl) ?_
  refine lv_iconst (v := 0) hx hb d_MO_clear_1 (by decide) ?_
  refine cw_put (C := R_MO) (T := F_MO) (N := 39) (ty := .int) (v := .int 0) hx hb hts (in_MO _) t_MO tok_MO n_MO hown hK hP hi hS 0 (by decide) rfl rfl 14 (by decide) (ht _ wC_696) rfl (by decide +kernel) rfl rfl (Nat.le_of_ble_eq_true rfl) up_MO_thrown d_MO_clear_2 (fun H locs hP hS => ?_)
  obtain ⟨s1, e_s1⟩ : ∃ z, z = sI σ 5 0 := ⟨_, rfl⟩
  rw [← e_s1] at hP
  have hq := hq s1 e_s1
  refine lv_aload_n hx hb d_MO_clear_5 rfl (lv_at hl 0 rfl) ?_
  refine cw_get (C := R_MO) (T := F_MO) (N := 39) (v := .int (gI s1 0)) hx hb hts (in_MO _) hown hK hP 0 (by decide) rfl rfl 9 (by decide) (ht _ wC_691) rfl d_MO_clear_6 ?_
  refine lv_istore_n (lv' := [(1, .int (gI s1 0)), (0, .ref (am 0))]) hx hb d_MO_clear_9 rfl hl (by decide) rfl (fun ls hl => ?_)
  refine lv_aload_n hx hb d_MO_clear_10 rfl (lv_at hl 1 rfl) ?_
  refine lv_iconst (v := 0) hx hb d_MO_clear_11 (by decide) ?_
  refine cw_put (C := R_MO) (T := F_MO) (N := 39) (ty := .int) (v := .int 0) hx hb hts (in_MO _) t_MO tok_MO n_MO hown hK hP hi hS 0 (by decide) rfl rfl 9 (by decide) (ht _ wC_691) rfl (by decide +kernel) rfl rfl (Nat.le_of_ble_eq_true rfl) up_MO_many d_MO_clear_12 (fun H locs hP hS => ?_)
  obtain ⟨s2, e_s2⟩ : ∃ z, z = sI s1 0 0 := ⟨_, rfl⟩
  rw [← e_s2] at hP
  have hq := hq s2 e_s2
  refine lv_iconst (v := 0) hx hb d_MO_clear_15 (by decide) ?_
  refine lv_istore_n (lv' := [(2, .int 0), (1, .int (gI s1 0)), (0, .ref (am 0))]) hx hb d_MO_clear_16 rfl hl (by decide) rfl (fun ls hl => ?_)
  obtain ⟨fu, hq⟩ := hq
  exact loop_17 fu 0 (gI s1 0) s2 _ _ ls hq hP hS (lv_sub hl [0, 1, 2] rfl)
def wp_MO_count (p1 : Int32) (σ : CS) (Q : Int32 → CS → Prop) : Prop := (wp_MO_within p1 0 6 σ (fun r1 s2 => ((r1 = 0 → (wp_MO_fail 1 s2 (fun r11 s12 => Q r11 s12))) ∧ (¬ r1 = 0 → (∀ s4 : CS, s4 = sI s2 5 0 → ((p1 = 0 → Q (gI s4 0) s4) ∧ (¬ p1 = 0 → ((p1 = 1 → Q ((((gI s4 2) - (gI s4 1)) + 1) * (((gI s4 4) - (gI s4 3)) + 1)) s4) ∧ (¬ p1 = 1 → ((p1 = 2 → Q (gI s4 9) s4) ∧ (¬ p1 = 2 → ((p1 = 3 → Q (gI s4 10) s4) ∧ (¬ p1 = 3 → ((p1 = 4 → Q (gI s4 11) s4) ∧ (¬ p1 = 4 → ((p1 = 5 → Q (gI s4 12) s4) ∧ (¬ p1 = 5 → Q (gI s4 13) s4)))))))))))))))))
set_option maxHeartbeats 4000000 in
set_option maxRecDepth 100000 in
theorem c_MO_count {l : Launch} {D : va_G} {cs : CI} {am : Nat → Nat} (hi : aI am 25) {p1 : Int32} {σ : CS} {Q : Int32 → CS → Prop} (hq : wp_MO_count p1 σ Q) : Met l y_MO_count (.code y_MO_count b_MO_count 2 (some .int) :: wC) ({ frames := 1, cells := 0, slots := 0, locals := 22 }) (va_Pc [.ref (am 0), .int p1] (mP D cs am σ)) (va_Qi Q (mP D cs am) (aK am 25)) 0 0 (aK am 25) := by
  refine Met.ofW (cc := b_MO_count) (maxL := 2) (ret := (some .int)) (by decide) rfl ?_
  intro p e s m args below meth c s₁ B hml hv
  obtain ⟨rfl, hP, hK, hN⟩ := hv
  have hx := B.exec
  have hb := B.bytes
  have hr := B.returns
  have hts := atoms_spec (ws := .code y_MO_count b_MO_count 2 (some .int) :: wC) B.pre
  have ht : ∀ w ∈ wC, w.before _ s = true := fun w h => hts w (List.mem_cons_of_mem _ h)
  have hown : s.vm.findClass R_MO = some m.cls := findClass_of_methodNamed B.named
  have hlocks := B.notSynchronized
  have hS : va_S (aK am 25) s.heap s.heap [] := va_S.rf
  have hl := lv_entry ([.ref (am 0), .int p1]) (n := 2) (Nat.le_of_ble_eq_true rfl)
  rw [lg_entry_eq]
  generalize (lg_sl ([.ref (am 0), .int p1]) ++ List.replicate (2 - (lg_sl ([.ref (am 0), .int p1])).length) Slot.unset).toArray = ls at hl ⊢
  have hl : lv_has ls 2 [(0, .ref (am 0)), (1, .int p1)] := hl
  unfold wp_MO_count at hq
  have hh8 : 8 < 9 := by decide
  refine lv_iload_n hx hb d_MO_count_0 rfl (lv_at hl 1 rfl) ?_
  refine lv_iconst (v := 0) hx hb d_MO_count_1 (by decide) ?_
  refine lv_bipush (v := 6) hx hb d_MO_count_2 (by decide) ?_
  refine va_calli (va_runS (As := [.int p1, .int 0, .int 6]) (rest := []) ⟨hx, hb, hml, hown, hts⟩ (c_MO_within (D := D) (cs := cs) hi hq) (va_cwS 3 hts (good_S wC_812 wC_813 wC_50 wC_814) rfl rfl rfl (by decide +kernel) ⟨(show 0 + 1 ≤ 1 by omega), (show 8 + (3 + 11) + 0 ≤ 22 by omega)⟩) ⟨mP_blind, fun U hU hW => ⟨rfl, by rw [hU]; exact hP, va_K.moved hW.alike hK, hN.warm hW⟩⟩ rfl rfl hl.1 rfl (lv_room (Nat.le_of_ble_eq_true rfl)) d_MO_count_4 ⟨Nat.le_of_ble_eq_true rfl, Nat.le_of_ble_eq_true rfl⟩) hS (fun q _ h => h) (fun q h => h) (fun r1 s2 t H locs ht0 hvm hq hB hz1 hk1 hS => ?_)
  obtain ⟨hP, -, -⟩ := hB
  rw [ht0] at hP
  refine lv_if_ne (tgt := 16) hx hb d_MO_count_7 (by decide) (fun c3 => ?_) (fun c3 => ?_)
  · have hq := hq.2 c3
    refine lv_aload_n hx hb d_MO_count_16 rfl (lv_at hl 0 rfl) ?_
    refine lv_iconst (v := 0) hx hb d_MO_count_17 (by decide) ?_
    refine cw_put (C := R_MO) (T := F_MO) (N := 39) (ty := .int) (v := .int 0) hx hb hts (in_MO _) t_MO tok_MO n_MO hown hK hP hi hS 0 (by decide) rfl rfl 14 (by decide) (ht _ wC_696) rfl (by decide +kernel) rfl rfl (Nat.le_of_ble_eq_true rfl) up_MO_thrown d_MO_count_18 (fun H locs hP hS => ?_)
    obtain ⟨s4, e_s4⟩ : ∃ z, z = sI s2 5 0 := ⟨_, rfl⟩
    rw [← e_s4] at hP
    have hq := hq s4 e_s4
    refine lv_iload_n hx hb d_MO_count_21 rfl (lv_at hl 1 rfl) ?_
    by_cases c5 : p1 = 0
    · have hq := hq.1 c5
      refine lv_tableIn (tgt := 60) hx hb d_MO_count_22 (by rw [c5]; decide) (by rw [c5]; decide) (by rw [c5]; rfl) (by decide) ?_
      refine lv_aload_n hx hb d_MO_count_60 rfl (lv_at hl 0 rfl) ?_
      refine cw_get (C := R_MO) (T := F_MO) (N := 39) (v := .int (gI s4 0)) hx hb hts (in_MO _) hown hK hP 0 (by decide) rfl rfl 9 (by decide) (ht _ wC_691) rfl d_MO_count_61 ?_
      exact W.iret hx hb hr (fun t ht hW => ⟨⟨(gI s4 0), s4, rfl, hq, by rw [ht]; exact hP, va_K.moved hW.alike hK, hN.warm hW⟩, hS.F ht⟩) hS.2.2 d_MO_count_64
    have hq := hq.2 c5
    by_cases c6 : p1 = 1
    · have hq := hq.1 c6
      refine lv_tableIn (tgt := 65) hx hb d_MO_count_22 (by rw [c6]; decide) (by rw [c6]; decide) (by rw [c6]; rfl) (by decide) ?_
      refine lv_aload_n hx hb d_MO_count_65 rfl (lv_at hl 0 rfl) ?_
      refine cw_get (C := R_MO) (T := F_MO) (N := 39) (v := .int (gI s4 2)) hx hb hts (in_MO _) hown hK hP 0 (by decide) rfl rfl 11 (by decide) (ht _ wC_693) rfl d_MO_count_66 ?_
      refine lv_aload_n hx hb d_MO_count_69 rfl (lv_at hl 0 rfl) ?_
      refine cw_get (C := R_MO) (T := F_MO) (N := 39) (v := .int (gI s4 1)) hx hb hts (in_MO _) hown hK hP 0 (by decide) rfl rfl 10 (by decide) (ht _ wC_692) rfl d_MO_count_70 ?_
      refine lv_isub hx hb d_MO_count_73 ?_
      refine lv_iconst (v := 1) hx hb d_MO_count_74 (by decide) ?_
      refine lv_iadd hx hb d_MO_count_75 ?_
      refine lv_aload_n hx hb d_MO_count_76 rfl (lv_at hl 0 rfl) ?_
      refine cw_get (C := R_MO) (T := F_MO) (N := 39) (v := .int (gI s4 4)) hx hb hts (in_MO _) hown hK hP 0 (by decide) rfl rfl 13 (by decide) (ht _ wC_695) rfl d_MO_count_77 ?_
      refine lv_aload_n hx hb d_MO_count_80 rfl (lv_at hl 0 rfl) ?_
      refine cw_get (C := R_MO) (T := F_MO) (N := 39) (v := .int (gI s4 3)) hx hb hts (in_MO _) hown hK hP 0 (by decide) rfl rfl 12 (by decide) (ht _ wC_694) rfl d_MO_count_81 ?_
      refine lv_isub hx hb d_MO_count_84 ?_
      refine lv_iconst (v := 1) hx hb d_MO_count_85 (by decide) ?_
      refine lv_iadd hx hb d_MO_count_86 ?_
      refine lv_imul hx hb d_MO_count_87 ?_
      exact W.iret hx hb hr (fun t ht hW => ⟨⟨((((gI s4 2) - (gI s4 1)) + 1) * (((gI s4 4) - (gI s4 3)) + 1)), s4, rfl, hq, by rw [ht]; exact hP, va_K.moved hW.alike hK, hN.warm hW⟩, hS.F ht⟩) hS.2.2 d_MO_count_88
    have hq := hq.2 c6
    by_cases c7 : p1 = 2
    · have hq := hq.1 c7
      refine lv_tableIn (tgt := 89) hx hb d_MO_count_22 (by rw [c7]; decide) (by rw [c7]; decide) (by rw [c7]; rfl) (by decide) ?_
      refine lv_aload_n hx hb d_MO_count_89 rfl (lv_at hl 0 rfl) ?_
      refine cw_get (C := R_MO) (T := F_MO) (N := 39) (v := .int (gI s4 9)) hx hb hts (in_MO _) hown hK hP 0 (by decide) rfl rfl 33 (by decide) (ht _ wC_715) rfl d_MO_count_90 ?_
      exact W.iret hx hb hr (fun t ht hW => ⟨⟨(gI s4 9), s4, rfl, hq, by rw [ht]; exact hP, va_K.moved hW.alike hK, hN.warm hW⟩, hS.F ht⟩) hS.2.2 d_MO_count_93
    have hq := hq.2 c7
    by_cases c8 : p1 = 3
    · have hq := hq.1 c8
      refine lv_tableIn (tgt := 94) hx hb d_MO_count_22 (by rw [c8]; decide) (by rw [c8]; decide) (by rw [c8]; rfl) (by decide) ?_
      refine lv_aload_n hx hb d_MO_count_94 rfl (lv_at hl 0 rfl) ?_
      refine cw_get (C := R_MO) (T := F_MO) (N := 39) (v := .int (gI s4 10)) hx hb hts (in_MO _) hown hK hP 0 (by decide) rfl rfl 34 (by decide) (ht _ wC_716) rfl d_MO_count_95 ?_
      exact W.iret hx hb hr (fun t ht hW => ⟨⟨(gI s4 10), s4, rfl, hq, by rw [ht]; exact hP, va_K.moved hW.alike hK, hN.warm hW⟩, hS.F ht⟩) hS.2.2 d_MO_count_98
    have hq := hq.2 c8
    by_cases c9 : p1 = 4
    · have hq := hq.1 c9
      refine lv_tableIn (tgt := 99) hx hb d_MO_count_22 (by rw [c9]; decide) (by rw [c9]; decide) (by rw [c9]; rfl) (by decide) ?_
      refine lv_aload_n hx hb d_MO_count_99 rfl (lv_at hl 0 rfl) ?_
      refine cw_get (C := R_MO) (T := F_MO) (N := 39) (v := .int (gI s4 11)) hx hb hts (in_MO _) hown hK hP 0 (by decide) rfl rfl 35 (by decide) (ht _ wC_717) rfl d_MO_count_100 ?_
      exact W.iret hx hb hr (fun t ht hW => ⟨⟨(gI s4 11), s4, rfl, hq, by rw [ht]; exact hP, va_K.moved hW.alike hK, hN.warm hW⟩, hS.F ht⟩) hS.2.2 d_MO_count_103
    have hq := hq.2 c9
    by_cases c10 : p1 = 5
    · have hq := hq.1 c10
      refine lv_tableIn (tgt := 104) hx hb d_MO_count_22 (by rw [c10]; decide) (by rw [c10]; decide) (by rw [c10]; rfl) (by decide) ?_
      refine lv_aload_n hx hb d_MO_count_104 rfl (lv_at hl 0 rfl) ?_
      refine cw_get (C := R_MO) (T := F_MO) (N := 39) (v := .int (gI s4 12)) hx hb hts (in_MO _) hown hK hP 0 (by decide) rfl rfl 36 (by decide) (ht _ wC_718) rfl d_MO_count_105 ?_
      exact W.iret hx hb hr (fun t ht hW => ⟨⟨(gI s4 12), s4, rfl, hq, by rw [ht]; exact hP, va_K.moved hW.alike hK, hN.warm hW⟩, hS.F ht⟩) hS.2.2 d_MO_count_108
    have hq := hq.2 c10
    refine cw_tabD (tgt := 109) hx hb d_MO_count_22 (by decide) ?_ ?_
    · have e_c5 := lv_neT c5 (a := 0) rfl; have e_c6 := lv_neT c6 (a := 1) rfl; have e_c7 := lv_neT c7 (a := 2) rfl; have e_c8 := lv_neT c8 (a := 3) rfl; have e_c9 := lv_neT c9 (a := 4) rfl; have e_c10 := lv_neT c10 (a := 5) rfl
      have g3 : p1.toInt < 0 ∨ 5 < p1.toInt := by omega
      exact g3.elim Or.inl (fun g => Or.inr (Or.inl g))
    refine lv_aload_n hx hb d_MO_count_109 rfl (lv_at hl 0 rfl) ?_
    refine cw_get (C := R_MO) (T := F_MO) (N := 39) (v := .int (gI s4 13)) hx hb hts (in_MO _) hown hK hP 0 (by decide) rfl rfl 37 (by decide) (ht _ wC_719) rfl d_MO_count_110 ?_
    exact W.iret hx hb hr (fun t ht hW => ⟨⟨(gI s4 13), s4, rfl, hq, by rw [ht]; exact hP, va_K.moved hW.alike hK, hN.warm hW⟩, hS.F ht⟩) hS.2.2 d_MO_count_113
  · have hq := hq.1 c3
    refine lv_aload_n hx hb d_MO_count_10 rfl (lv_at hl 0 rfl) ?_
    refine lv_iconst (v := 1) hx hb d_MO_count_11 (by decide) ?_
    refine va_calli (va_runV (As := [.int 1]) (rest := []) ⟨hx, hb, hml, hown, hts⟩ (c_MO_fail (D := D) (cs := cs) hi hq) (cwV 1 hts (good_V wC_819 wC_821 wC_25 wC_50 wC_822) rfl rfl rfl (by decide +kernel) ⟨(show 0 + 1 ≤ 1 by omega), (show 8 + (2 + 11) + 0 ≤ 22 by omega)⟩) ⟨mP_blind, va_recv hK hP (ci := 5) (q0 := 0) rfl (wd_at (by decide) rfl), fun U hU hW => ⟨rfl, by rw [hU]; exact hP, va_K.moved hW.alike hK, hN.warm hW⟩⟩ rfl rfl hl.1 rfl (lv_room (Nat.le_of_ble_eq_true rfl)) d_MO_count_12 ⟨Nat.le_of_ble_eq_true rfl, Nat.le_of_ble_eq_true rfl⟩) hS (fun q _ h => h) (fun q h => h) (fun r11 s12 t H locs ht0 hvm hq hB hz1 hk1 hS => ?_)
    obtain ⟨hP, -, -⟩ := hB
    rw [ht0] at hP
    exact W.iret hx hb hr (fun t ht hW => ⟨⟨r11, s12, rfl, hq, by rw [ht]; exact hP, va_K.moved hW.alike hK, hN.warm hW⟩, hS.F ht⟩) hS.2.2 d_MO_count_15
