def ncL : List (String × String) := [("java/lang/IllegalArgumentException", "java/lang/IllegalStateException"), ("java/lang/IllegalArgumentException", "java/lang/ArithmeticException"), ("java/lang/IllegalArgumentException", "java/lang/IndexOutOfBoundsException"), ("java/lang/IllegalArgumentException", "java/lang/UnsupportedOperationException"), ("java/lang/IllegalArgumentException", "java/util/NoSuchElementException"), ("java/lang/IllegalStateException", "java/lang/IllegalArgumentException"), ("java/lang/IllegalStateException", "java/lang/ArithmeticException"), ("java/lang/IllegalStateException", "java/lang/IndexOutOfBoundsException"), ("java/lang/IllegalStateException", "java/lang/UnsupportedOperationException"), ("java/lang/IllegalStateException", "java/util/NoSuchElementException"), ("java/lang/ArithmeticException", "java/lang/IllegalArgumentException"), ("java/lang/ArithmeticException", "java/lang/IllegalStateException"), ("java/lang/ArithmeticException", "java/lang/IndexOutOfBoundsException"), ("java/lang/ArithmeticException", "java/lang/UnsupportedOperationException"), ("java/lang/ArithmeticException", "java/util/NoSuchElementException"), ("java/lang/IndexOutOfBoundsException", "java/lang/IllegalArgumentException"), ("java/lang/IndexOutOfBoundsException", "java/lang/IllegalStateException"), ("java/lang/IndexOutOfBoundsException", "java/lang/ArithmeticException"), ("java/lang/IndexOutOfBoundsException", "java/lang/UnsupportedOperationException"), ("java/lang/IndexOutOfBoundsException", "java/util/NoSuchElementException"), ("java/lang/UnsupportedOperationException", "java/lang/IllegalArgumentException"), ("java/lang/UnsupportedOperationException", "java/lang/IllegalStateException"), ("java/lang/UnsupportedOperationException", "java/lang/ArithmeticException"), ("java/lang/UnsupportedOperationException", "java/lang/IndexOutOfBoundsException"), ("java/lang/UnsupportedOperationException", "java/util/NoSuchElementException"), ("java/util/NoSuchElementException", "java/lang/IllegalArgumentException"), ("java/util/NoSuchElementException", "java/lang/IllegalStateException"), ("java/util/NoSuchElementException", "java/lang/ArithmeticException"), ("java/util/NoSuchElementException", "java/lang/IndexOutOfBoundsException"), ("java/util/NoSuchElementException", "java/lang/UnsupportedOperationException")]
/-! the law's helpers: the class's world, and one array more -/
def aO (ad : Nat → Nat) (o : Nat) : Nat → Prop := fun q => aK ad 51 q ∨ q = o
abbrev tyL (cs : CI) (cL : ClassId) : List (ClassId × FieldType) := [(cs.1, .int), (cs.2.1, .double), (cs.2.2, .object "NameForge$Environment"), (cL, .long)]
/-- exceptions that aren't one another -/
def NC (U : State) : Prop := ∀ a b : String, (a, b) ∈ ncL → va_Nc a b U
theorem NC.moved {u U : State} (h : NC u) (hvm : u.vm.Alike U.vm) : NC U := fun a b hab => va_Nc.moved hvm (h a b hab)
theorem SW.narrow {A B : Nat → Prop} {U : State} {H : Heap} (h : SW A U H) (hAB : ∀ q, B q → A q) : SW B U H := by
  obtain ⟨tA, tB, tC, a1, a2, a3, a4, a5, a6⟩ := h
  exact ⟨tA, tB, tC, a1.narrow hAB, a2.narrow hAB, a3.narrow hAB, a4.narrow hAB, a5.narrow hAB, a6.narrow hAB⟩
theorem XW.narrow {A B : Nat → Prop} {U : State} (h : XW A U) (hAB : ∀ q, B q → A q) : XW B U := ⟨h.1.narrow hAB, h.2.1, h.2.2.1.narrow hAB, h.2.2.2.narrow hAB⟩
theorem app_l {D : va_G} {cl : List vw_C} {w1 w2 : va_W} {H : Heap} (h : va_P D cl (w1 ++ w2) H) : va_P D cl w1 H := fun k q hq => h k q (by rw [List.getElem?_append_left (List.getElem?_eq_some_iff.mp hq).1]; exact hq)
theorem app_r {D : va_G} {cl : List vw_C} {w1 w2 : va_W} {H : Heap} (h : va_P D cl (w1 ++ w2) H) : va_P D cl w2 H := fun k q hq => h (w1.length + k) q (by rw [List.getElem?_append_right (by omega), Nat.add_sub_cancel_left]; exact hq)
theorem one_D' {A : Nat → Prop} {a : Nat} {e : va_E} (h : A a) : va_D A [(a, e)] := one_D.weaken (fun _ _ _ hz => by rw [hz]; exact h)
theorem wdo_D {ad : Nat → Nat} {ct : Nat → va_E} {o : Nat} {e : va_E} (hi : aI ad 51) (ho : ¬ aK ad 51 o) : va_D (aO ad o) (wd ad ct 51 ++ [(o, e)]) := by
  refine va_D.app ((wd_D hi).weaken (fun _ _ _ h => Or.inl h)) (one_D' (Or.inr rfl)) (fun i j x y hx hy hxy => ?_)
  obtain ⟨h1, rfl⟩ := wd_inv hx
  match j, hy with
  | 0, hy =>
    cases hy
    exact ho ⟨i, h1, hxy.symm⟩
  | j + 1, hy => simp at hy
theorem wdo_at {ad : Nat → Nat} {ct : Nat → va_E} {o : Nat} {e : va_E} : (wd ad ct 51 ++ [(o, e)])[51]? = some (o, e) := by
  rw [List.getElem?_append_right (by rw [wd_len]; omega), wd_len]
  rfl
theorem app_set {α : Type} (y x : α) : ∀ l : List α, (l ++ [x]).set l.length y = l ++ [y]
  | [] => rfl
  | a :: l => congrArg (fun z => a :: z) (app_set y x l)
theorem wdo_set {ad : Nat → Nat} {ct : Nat → va_E} {x y : Nat × va_E} : (wd ad ct 51 ++ [x]).set 51 y = wd ad ct 51 ++ [y] := by
  have h := app_set y x (wd ad ct 51)
  rwa [wd_len] at h
theorem keep_o {D : va_G} {cl : List vw_C} {o : Nat} {e : va_E} {H H1 : Heap} {B : Nat → Prop} (h : va_P D cl [(o, e)] H) (ho : ¬ B o) (hk : ∀ q : Nat, q < H.size → ¬ B q → H1[q]? = H[q]?) : va_P D cl [(o, e)] H1 := by
  refine h.kept (fun k q hq => ?_)
  match k, hq with
  | 0, hq =>
    cases hq
    exact hk o (h 0 _ rfl).lt ho
  | k + 1, hq => simp at hq
/-- what a helper starts with -/
abbrev hPre (D : va_G) (cs : CI) (cL : ClassId) (ad : Nat → Nat) (A : Nat → Prop) (w : va_W) (U : State) : Prop := va_P D clA w U.heap ∧ va_K D clA (tyL cs cL) U ∧ NW U ∧ XW A U ∧ NC U
theorem hPre_blind {D : va_G} {cs : CI} {cL : ClassId} {ad : Nat → Nat} {A : Nat → Prop} {w : va_W} {av : List Value} : FrameBlind (va_Pc av (hPre D cs cL ad A w)) :=
  fun a U g mk h => ⟨h.1, h.2.1, va_K.moved (u := U) (U := U.calling g mk a) (Vm.Alike.refl U.vm) h.2.2.1, h.2.2.2.1.same rfl, ⟨h.2.2.2.2.1.1.to (fun _ _ _ => rfl) (Vm.Alike.refl U.vm), h.2.2.2.2.1.2.1.same rfl, h.2.2.2.2.1.2.2.1.moved (Vm.Alike.refl U.vm), h.2.2.2.2.1.2.2.2.moved (Vm.Alike.refl U.vm)⟩, h.2.2.2.2.2.moved (Vm.Alike.refl U.vm)⟩
def wp_LW_make (p1 : Int32) (p2 : Int32) (p3 : Int32) (p4 : Int32) (σ : CS) (f : Nat → Int64) (Q : Int32 → CS → (Nat → Int64) → Prop) : Prop := wp_NF_make p1 p2 p3 p4 σ (fun r s => Q 0 s (vp_updL f 0 r.toInt64)) (fun E s => (E = "java/lang/IllegalArgumentException" ∧ Q 1 s f) ∨ (E = "java/lang/IllegalStateException" ∧ Q 2 s f))
set_option maxHeartbeats 4000000 in
set_option maxRecDepth 100000 in
theorem c_LW_make {l : Launch} (hst : l.stackTraces = false) {D : va_G} {cs : CI} {cL : ClassId} {ad : Nat → Nat} (hi : aI ad 51) {o : Nat} (ho : ¬ aK ad 51 o) {p1 : Int32} {p2 : Int32} {p3 : Int32} {p4 : Int32} {σ : CS} {f : Nat → Int64} {Q : Int32 → CS → (Nat → Int64) → Prop} (hq : wp_LW_make p1 p2 p3 p4 σ f Q) : Met l y_LW_make (.codeWith y_LW_make b_LW_make 7 (some .int) [(0, 14, 17, 13), (0, 14, 21, 15)] :: wC) ({ frames := 7, cells := 1, slots := 6, locals := 114 }) (va_Pc [.ref (ad 0), .int p1, .int p2, .int p3, .int p4, .ref o] (hPre D cs cL ad (aO ad o) (wd ad (cont ad cs σ) 51 ++ [(o, .inl (cL, 1, .inr (.inl f)))]))) (va_Qi (fun r (u : CS × (Nat → Int64)) => Q r u.1 u.2) (fun u t => va_P D clA (wd ad (cont ad cs u.1) 51 ++ [(o, .inl (cL, 1, .inr (.inl u.2)))]) t.heap) (aO ad o)) 1 6 (aO ad o) := by
  refine va_MetW (cc := b_LW_make) (maxL := 7) (ret := (some .int)) (hh := [(0, 14, 17, 13), (0, 14, 21, 15)]) (by decide) rfl ?_
  intro p e s m args below meth c s₁ B hml hv
  obtain ⟨rfl, hPP, hKL, hN, hXW, hNC⟩ := hv
  have hx := B.exec
  have hb := B.bytes
  have hr := B.returns
  have hts := atoms_spec (ws := .codeWith y_LW_make b_LW_make 7 (some .int) [(0, 14, 17, 13), (0, 14, 21, 15)] :: wC) B.pre
  have htab := vx_table (x := y_LW_make) B (hts _ List.mem_cons_self)
  have ht : ∀ w ∈ wC, w.before _ s = true := fun w h => hts w (List.mem_cons_of_mem _ h)
  have hown : s.vm.findClass R_LW = some m.cls := findClass_of_methodNamed B.named
  have hlocks := B.notSynchronized
  have hK := hKL.sub (tys' := tyC cs) [0, 1, 2] rfl
  have hP := app_l hPP
  have hPo := app_r hPP
  have hS : va_S (aO ad o) s.heap s.heap [] := va_S.rf
  have hl := lv_entry ([.ref (ad 0), .int p1, .int p2, .int p3, .int p4, .ref o]) (n := 7) (Nat.le_of_ble_eq_true rfl)
  rw [lg_entry_eq]
  generalize (lg_sl ([.ref (ad 0), .int p1, .int p2, .int p3, .int p4, .ref o]) ++ List.replicate (7 - (lg_sl ([.ref (ad 0), .int p1, .int p2, .int p3, .int p4, .ref o])).length) Slot.unset).toArray = ls at hl ⊢
  have hl : lv_has ls 7 [(0, .ref (ad 0)), (1, .int p1), (2, .int p2), (3, .int p3), (4, .int p4), (5, .ref o)] := hl
  unfold wp_LW_make at hq
  refine lv_aload hx hb d_LW_make_0 (lv_at hl 5 rfl) ?_
  refine lv_iconst (v := 0) hx hb d_LW_make_2 (by decide) ?_
  refine lv_aload_n hx hb d_LW_make_3 rfl (lv_at hl 0 rfl) ?_
  refine lv_iload_n hx hb d_LW_make_4 rfl (lv_at hl 1 rfl) ?_
  refine lv_iload_n hx hb d_LW_make_5 rfl (lv_at hl 2 rfl) ?_
  refine lv_iload_n hx hb d_LW_make_6 rfl (lv_at hl 3 rfl) ?_
  refine lv_iload hx hb d_LW_make_7 (lv_at hl 4 rfl) ?_
  refine vx_calli (vx_runV (As := [.int p1, .int p2, .int p3, .int p4]) (rest := [.int 0, .ref o]) ⟨hx, hb, hml, hown, hts⟩ (c_NF_make hst (D := D) (cs := cs) hi hq) (cwV 4 hts (good_V wC_250 wC_251 wC_252 wC_44 wC_253) rfl rfl rfl (by decide +kernel) ⟨(show 6 + 1 ≤ 7 by decide), (show 8 + (5 + 11) + 90 ≤ 114 by decide)⟩) ⟨pP_blind, va_recv hK hP (ci := 0) (q0 := 0) rfl (wd_at (by decide) rfl), fun U hU hW => ⟨rfl, ⟨by rw [hU]; exact hP, va_K.moved hW.alike hK, hN.warm hW⟩, (hXW.narrow (fun q h => Or.inl h)).to va_S.rf hU hW⟩⟩ rfl rfl hl.1 rfl (lv_room (Nat.le_of_ble_eq_true rfl)) d_LW_make_9 ⟨Nat.le_of_ble_eq_true rfl, Nat.le_of_ble_eq_true rfl⟩) hS (fun q _ h => Or.inl h) (fun q h => Or.inl h) (fun q _ h => Or.inl h) (fun E ce q9 u t H locs ht0 hvm _ hB hz1 hk1 hS h1 h2 h3 => ?_) (fun r u t H locs ht0 hvm hq hB hz1 hk1 hS => ?_)
  · obtain ⟨hq, hP⟩ := hB
    rw [ht0] at hP
    have hPo := keep_o hPo ho hk1
    rcases hq with ⟨rfl, hq⟩ | ⟨rfl, hq⟩
    · refine vx_catch hown [] ⟨0, 14, 17, 13⟩ [⟨0, 14, 21, 15⟩] htab (fun z hz => by cases hz) (by decide) (by decide) (ht _ wC_248) (va_Nw.use rfl (hN _ wN_277)) h1 h2 h3 ?_
      refine lv_astore (lv' := [(6, .ref q9), (0, .ref (ad 0)), (1, .int p1), (2, .int p2), (3, .int p3), (4, .int p4), (5, .ref o)]) hx hb d_LW_make_17 hl (by decide) rfl (fun ls hl => ?_)
      refine lv_iconst (v := 1) hx hb d_LW_make_19 (by decide) ?_
      exact W.iret hx hb hr (fun t ht hW => ⟨⟨1, (u, f), rfl, hq, by show va_P _ _ _ t.heap; rw [ht]; exact hP.app hPo⟩, hS.F ht⟩) hS.2.2 d_LW_make_20
    · refine vx_catch hown [⟨0, 14, 17, 13⟩] ⟨0, 14, 21, 15⟩ [] htab (fun z hz => by
        simp only [List.mem_cons, List.not_mem_nil, or_false] at hz
        rcases hz with rfl
        · exact Or.inr ⟨by decide, _, (ht _ wC_248), hNC _ _ (by simp [ncL])⟩) (by decide) (by decide) (ht _ wC_249) (va_Nw.use rfl (hN _ wN_348)) h1 h2 h3 ?_
      refine lv_astore (lv' := [(6, .ref q9), (0, .ref (ad 0)), (1, .int p1), (2, .int p2), (3, .int p3), (4, .int p4), (5, .ref o)]) hx hb d_LW_make_21 hl (by decide) rfl (fun ls hl => ?_)
      refine lv_iconst (v := 2) hx hb d_LW_make_23 (by decide) ?_
      exact W.iret hx hb hr (fun t ht hW => ⟨⟨2, (u, f), rfl, hq, by show va_P _ _ _ t.heap; rw [ht]; exact hP.app hPo⟩, hS.F ht⟩) hS.2.2 d_LW_make_24
  · obtain ⟨hP, -, -⟩ := hB
    rw [ht0] at hP
    have hPP := hP.app (keep_o hPo ho hk1)
    refine lv_i2l hx hb d_LW_make_12 rfl ?_
    refine va_last hx hb hKL hPP (wdo_D hi ho) hS 51 3 wdo_at rfl (show vp_in _ _ by unfold vp_in; decide) d_LW_make_13 (fun H locs hPP hD hS => ?_)
    rw [wdo_set] at hPP
    refine lv_goto (tgt := 25) hx hb d_LW_make_14 (by decide) ?_
    refine lv_iconst (v := 0) hx hb d_LW_make_25 (by decide) ?_
    exact W.iret hx hb hr (fun t ht hW => ⟨⟨0, (u, vp_updL f 0 r.toInt64), rfl, hq, by show va_P _ _ _ t.heap; rw [ht]; exact hPP⟩, hS.F ht⟩) hS.2.2 d_LW_make_26
def wp_LW_procedure (p1 : Int32) (p2 : Int32) (p3 : Int32) (p4 : Int32) (σ : CS) (Q : Int32 → CS → Prop) : Prop := wp_NF_procedure p1 p2 p3 p4 σ (fun s => Q 0 s) (fun E s => (E = "java/lang/IllegalArgumentException" ∧ Q 1 s))
set_option maxHeartbeats 4000000 in
set_option maxRecDepth 100000 in
theorem c_LW_procedure {l : Launch} (hst : l.stackTraces = false) {D : va_G} {cs : CI} {cL : ClassId} {ad : Nat → Nat} (hi : aI ad 51) {p1 : Int32} {p2 : Int32} {p3 : Int32} {p4 : Int32} {σ : CS} {Q : Int32 → CS → Prop} (hq : wp_LW_procedure p1 p2 p3 p4 σ Q) : Met l y_LW_procedure (.codeWith y_LW_procedure b_LW_procedure 6 (some .int) [(0, 9, 12, 13)] :: wC) ({ frames := 7, cells := 1, slots := 6, locals := 114 }) (va_Pc [.ref (ad 0), .int p1, .int p2, .int p3, .int p4] (hPre D cs cL ad (aK ad 51) (wd ad (cont ad cs σ) 51))) (va_Qi (fun r (u : CS) => Q r u) (fun u t => va_P D clA (wd ad (cont ad cs u) 51) t.heap) (aK ad 51)) 1 6 (aK ad 51) := by
  refine va_MetW (cc := b_LW_procedure) (maxL := 6) (ret := (some .int)) (hh := [(0, 9, 12, 13)]) (by decide) rfl ?_
  intro p e s m args below meth c s₁ B hml hv
  obtain ⟨rfl, hPP, hKL, hN, hXW, hNC⟩ := hv
  have hx := B.exec
  have hb := B.bytes
  have hr := B.returns
  have hts := atoms_spec (ws := .codeWith y_LW_procedure b_LW_procedure 6 (some .int) [(0, 9, 12, 13)] :: wC) B.pre
  have htab := vx_table (x := y_LW_procedure) B (hts _ List.mem_cons_self)
  have ht : ∀ w ∈ wC, w.before _ s = true := fun w h => hts w (List.mem_cons_of_mem _ h)
  have hown : s.vm.findClass R_LW = some m.cls := findClass_of_methodNamed B.named
  have hlocks := B.notSynchronized
  have hK := hKL.sub (tys' := tyC cs) [0, 1, 2] rfl
  have hP := hPP
  have hS : va_S (aK ad 51) s.heap s.heap [] := va_S.rf
  have hl := lv_entry ([.ref (ad 0), .int p1, .int p2, .int p3, .int p4]) (n := 6) (Nat.le_of_ble_eq_true rfl)
  rw [lg_entry_eq]
  generalize (lg_sl ([.ref (ad 0), .int p1, .int p2, .int p3, .int p4]) ++ List.replicate (6 - (lg_sl ([.ref (ad 0), .int p1, .int p2, .int p3, .int p4])).length) Slot.unset).toArray = ls at hl ⊢
  have hl : lv_has ls 6 [(0, .ref (ad 0)), (1, .int p1), (2, .int p2), (3, .int p3), (4, .int p4)] := hl
  unfold wp_LW_procedure at hq
  refine lv_aload_n hx hb d_LW_procedure_0 rfl (lv_at hl 0 rfl) ?_
  refine lv_iload_n hx hb d_LW_procedure_1 rfl (lv_at hl 1 rfl) ?_
  refine lv_iload_n hx hb d_LW_procedure_2 rfl (lv_at hl 2 rfl) ?_
  refine lv_iload_n hx hb d_LW_procedure_3 rfl (lv_at hl 3 rfl) ?_
  refine lv_iload hx hb d_LW_procedure_4 (lv_at hl 4 rfl) ?_
  refine vx_callv (vx_runV (As := [.int p1, .int p2, .int p3, .int p4]) (rest := []) ⟨hx, hb, hml, hown, hts⟩ (c_NF_procedure hst (D := D) (cs := cs) hi hq) (cwV 4 hts (good_V wC_369 wC_370 wC_371 wC_44 wC_372) rfl rfl rfl (by decide +kernel) ⟨(show 6 + 1 ≤ 7 by decide), (show 8 + (5 + 11) + 90 ≤ 114 by decide)⟩) ⟨pP_blind, va_recv hK hP (ci := 0) (q0 := 0) rfl (wd_at (by decide) rfl), fun U hU hW => ⟨rfl, ⟨by rw [hU]; exact hP, va_K.moved hW.alike hK, hN.warm hW⟩, (hXW.narrow (fun q h => h)).to va_S.rf hU hW⟩⟩ rfl rfl hl.1 rfl (lv_room (Nat.le_of_ble_eq_true rfl)) d_LW_procedure_6 ⟨Nat.le_of_ble_eq_true rfl, Nat.le_of_ble_eq_true rfl⟩) hS (fun q _ h => h) (fun q h => h) (fun q _ h => h) (fun E ce q9 u t H locs ht0 hvm _ hB hz1 hk1 hS h1 h2 h3 => ?_) (fun u t H locs ht0 hvm hq hB hz1 hk1 hS => ?_)
  · obtain ⟨hq, hP⟩ := hB
    rw [ht0] at hP
    rcases hq with ⟨rfl, hq⟩
    · refine vx_catch hown [] ⟨0, 9, 12, 13⟩ [] htab (fun z hz => by cases hz) (by decide) (by decide) (ht _ wC_248) (va_Nw.use rfl (hN _ wN_277)) h1 h2 h3 ?_
      refine lv_astore (lv' := [(5, .ref q9), (0, .ref (ad 0)), (1, .int p1), (2, .int p2), (3, .int p3), (4, .int p4)]) hx hb d_LW_procedure_12 hl (by decide) rfl (fun ls hl => ?_)
      refine lv_iconst (v := 1) hx hb d_LW_procedure_14 (by decide) ?_
      exact W.iret hx hb hr (fun t ht hW => ⟨⟨1, u, rfl, hq, by show va_P _ _ _ t.heap; rw [ht]; exact hP⟩, hS.F ht⟩) hS.2.2 d_LW_procedure_15
  · obtain ⟨hP, -, -⟩ := hB
    rw [ht0] at hP
    refine lv_goto (tgt := 16) hx hb d_LW_procedure_9 (by decide) ?_
    refine lv_iconst (v := 0) hx hb d_LW_procedure_16 (by decide) ?_
    exact W.iret hx hb hr (fun t ht hW => ⟨⟨0, u, rfl, hq, by show va_P _ _ _ t.heap; rw [ht]; exact hP⟩, hS.F ht⟩) hS.2.2 d_LW_procedure_17
def wp_LW_bounds (p1 : Int32) (p2 : Int32) (p3 : Int32) (p4 : Int32) (σ : CS) (f : Nat → Int64) (Q : Int32 → CS → (Nat → Int64) → Prop) : Prop := wp_NF_bounds p1 p2 p3 p4 σ (fun r s => Q 0 s (vp_updL f 0 r.toInt64)) (fun E s => (E = "java/lang/IllegalArgumentException" ∧ Q 1 s f))
set_option maxHeartbeats 4000000 in
set_option maxRecDepth 100000 in
theorem c_LW_bounds {l : Launch} (hst : l.stackTraces = false) {D : va_G} {cs : CI} {cL : ClassId} {ad : Nat → Nat} (hi : aI ad 51) {o : Nat} (ho : ¬ aK ad 51 o) {p1 : Int32} {p2 : Int32} {p3 : Int32} {p4 : Int32} {σ : CS} {f : Nat → Int64} {Q : Int32 → CS → (Nat → Int64) → Prop} (hq : wp_LW_bounds p1 p2 p3 p4 σ f Q) : Met l y_LW_bounds (.codeWith y_LW_bounds b_LW_bounds 7 (some .int) [(0, 14, 17, 13)] :: wC) ({ frames := 7, cells := 1, slots := 6, locals := 114 }) (va_Pc [.ref (ad 0), .int p1, .int p2, .int p3, .int p4, .ref o] (hPre D cs cL ad (aO ad o) (wd ad (cont ad cs σ) 51 ++ [(o, .inl (cL, 1, .inr (.inl f)))]))) (va_Qi (fun r (u : CS × (Nat → Int64)) => Q r u.1 u.2) (fun u t => va_P D clA (wd ad (cont ad cs u.1) 51 ++ [(o, .inl (cL, 1, .inr (.inl u.2)))]) t.heap) (aO ad o)) 1 6 (aO ad o) := by
  refine va_MetW (cc := b_LW_bounds) (maxL := 7) (ret := (some .int)) (hh := [(0, 14, 17, 13)]) (by decide) rfl ?_
  intro p e s m args below meth c s₁ B hml hv
  obtain ⟨rfl, hPP, hKL, hN, hXW, hNC⟩ := hv
  have hx := B.exec
  have hb := B.bytes
  have hr := B.returns
  have hts := atoms_spec (ws := .codeWith y_LW_bounds b_LW_bounds 7 (some .int) [(0, 14, 17, 13)] :: wC) B.pre
  have htab := vx_table (x := y_LW_bounds) B (hts _ List.mem_cons_self)
  have ht : ∀ w ∈ wC, w.before _ s = true := fun w h => hts w (List.mem_cons_of_mem _ h)
  have hown : s.vm.findClass R_LW = some m.cls := findClass_of_methodNamed B.named
  have hlocks := B.notSynchronized
  have hK := hKL.sub (tys' := tyC cs) [0, 1, 2] rfl
  have hP := app_l hPP
  have hPo := app_r hPP
  have hS : va_S (aO ad o) s.heap s.heap [] := va_S.rf
  have hl := lv_entry ([.ref (ad 0), .int p1, .int p2, .int p3, .int p4, .ref o]) (n := 7) (Nat.le_of_ble_eq_true rfl)
  rw [lg_entry_eq]
  generalize (lg_sl ([.ref (ad 0), .int p1, .int p2, .int p3, .int p4, .ref o]) ++ List.replicate (7 - (lg_sl ([.ref (ad 0), .int p1, .int p2, .int p3, .int p4, .ref o])).length) Slot.unset).toArray = ls at hl ⊢
  have hl : lv_has ls 7 [(0, .ref (ad 0)), (1, .int p1), (2, .int p2), (3, .int p3), (4, .int p4), (5, .ref o)] := hl
  unfold wp_LW_bounds at hq
  refine lv_aload hx hb d_LW_bounds_0 (lv_at hl 5 rfl) ?_
  refine lv_iconst (v := 0) hx hb d_LW_bounds_2 (by decide) ?_
  refine lv_aload_n hx hb d_LW_bounds_3 rfl (lv_at hl 0 rfl) ?_
  refine lv_iload_n hx hb d_LW_bounds_4 rfl (lv_at hl 1 rfl) ?_
  refine lv_iload_n hx hb d_LW_bounds_5 rfl (lv_at hl 2 rfl) ?_
  refine lv_iload_n hx hb d_LW_bounds_6 rfl (lv_at hl 3 rfl) ?_
  refine lv_iload hx hb d_LW_bounds_7 (lv_at hl 4 rfl) ?_
  refine vx_calli (vx_runV (As := [.int p1, .int p2, .int p3, .int p4]) (rest := [.int 0, .ref o]) ⟨hx, hb, hml, hown, hts⟩ (c_NF_bounds hst (D := D) (cs := cs) hi hq) (cwV 4 hts (good_V wC_383 wC_384 wC_385 wC_44 wC_386) rfl rfl rfl (by decide +kernel) ⟨(show 6 + 1 ≤ 7 by decide), (show 8 + (5 + 11) + 90 ≤ 114 by decide)⟩) ⟨pP_blind, va_recv hK hP (ci := 0) (q0 := 0) rfl (wd_at (by decide) rfl), fun U hU hW => ⟨rfl, ⟨by rw [hU]; exact hP, va_K.moved hW.alike hK, hN.warm hW⟩, (hXW.narrow (fun q h => Or.inl h)).to va_S.rf hU hW⟩⟩ rfl rfl hl.1 rfl (lv_room (Nat.le_of_ble_eq_true rfl)) d_LW_bounds_9 ⟨Nat.le_of_ble_eq_true rfl, Nat.le_of_ble_eq_true rfl⟩) hS (fun q _ h => Or.inl h) (fun q h => Or.inl h) (fun q _ h => Or.inl h) (fun E ce q9 u t H locs ht0 hvm _ hB hz1 hk1 hS h1 h2 h3 => ?_) (fun r u t H locs ht0 hvm hq hB hz1 hk1 hS => ?_)
  · obtain ⟨hq, hP⟩ := hB
    rw [ht0] at hP
    have hPo := keep_o hPo ho hk1
    rcases hq with ⟨rfl, hq⟩
    · refine vx_catch hown [] ⟨0, 14, 17, 13⟩ [] htab (fun z hz => by cases hz) (by decide) (by decide) (ht _ wC_248) (va_Nw.use rfl (hN _ wN_277)) h1 h2 h3 ?_
      refine lv_astore (lv' := [(6, .ref q9), (0, .ref (ad 0)), (1, .int p1), (2, .int p2), (3, .int p3), (4, .int p4), (5, .ref o)]) hx hb d_LW_bounds_17 hl (by decide) rfl (fun ls hl => ?_)
      refine lv_iconst (v := 1) hx hb d_LW_bounds_19 (by decide) ?_
      exact W.iret hx hb hr (fun t ht hW => ⟨⟨1, (u, f), rfl, hq, by show va_P _ _ _ t.heap; rw [ht]; exact hP.app hPo⟩, hS.F ht⟩) hS.2.2 d_LW_bounds_20
  · obtain ⟨hP, -, -⟩ := hB
    rw [ht0] at hP
    have hPP := hP.app (keep_o hPo ho hk1)
    refine lv_i2l hx hb d_LW_bounds_12 rfl ?_
    refine va_last hx hb hKL hPP (wdo_D hi ho) hS 51 3 wdo_at rfl (show vp_in _ _ by unfold vp_in; decide) d_LW_bounds_13 (fun H locs hPP hD hS => ?_)
    rw [wdo_set] at hPP
    refine lv_goto (tgt := 21) hx hb d_LW_bounds_14 (by decide) ?_
    refine lv_iconst (v := 0) hx hb d_LW_bounds_21 (by decide) ?_
    exact W.iret hx hb hr (fun t ht hW => ⟨⟨0, (u, vp_updL f 0 r.toInt64), rfl, hq, by show va_P _ _ _ t.heap; rw [ht]; exact hPP⟩, hS.F ht⟩) hS.2.2 d_LW_bounds_22
def wp_LW_put (p1 : Int32) (p2 : UInt64) (σ : CS) (f : Nat → UInt64) (Q : Int32 → CS → (Nat → UInt64) → Prop) : Prop := wp_NF_put p1 p2 σ (fun r s => Q 0 s (vf_upd f 0 r)) (fun E s => (E = "java/lang/IllegalArgumentException" ∧ Q 1 s f))
set_option maxHeartbeats 4000000 in
set_option maxRecDepth 100000 in
theorem c_LW_put {l : Launch} (hst : l.stackTraces = false) {D : va_G} {cs : CI} {cL : ClassId} {ad : Nat → Nat} (hi : aI ad 51) {o : Nat} (ho : ¬ aK ad 51 o) {p1 : Int32} {p2 : UInt64} {σ : CS} {f : Nat → UInt64} {Q : Int32 → CS → (Nat → UInt64) → Prop} (hq : wp_LW_put p1 p2 σ f Q) : Met l y_LW_put (.codeWith y_LW_put b_LW_put 6 (some .int) [(0, 10, 13, 13)] :: wC) ({ frames := 7, cells := 1, slots := 6, locals := 115 }) (va_Pc [.ref (ad 0), .int p1, .double p2, .ref o] (hPre D cs cL ad (aO ad o) (wd ad (cont ad cs σ) 51 ++ [(o, .inl (cs.2.1, 1, .inr (.inr (.inr (.inl f)))))]))) (va_Qi (fun r (u : CS × (Nat → UInt64)) => Q r u.1 u.2) (fun u t => va_P D clA (wd ad (cont ad cs u.1) 51 ++ [(o, .inl (cs.2.1, 1, .inr (.inr (.inr (.inl u.2)))))]) t.heap) (aO ad o)) 1 6 (aO ad o) := by
  refine va_MetW (cc := b_LW_put) (maxL := 6) (ret := (some .int)) (hh := [(0, 10, 13, 13)]) (by decide) rfl ?_
  intro p e s m args below meth c s₁ B hml hv
  obtain ⟨rfl, hPP, hKL, hN, hXW, hNC⟩ := hv
  have hx := B.exec
  have hb := B.bytes
  have hr := B.returns
  have hts := atoms_spec (ws := .codeWith y_LW_put b_LW_put 6 (some .int) [(0, 10, 13, 13)] :: wC) B.pre
  have htab := vx_table (x := y_LW_put) B (hts _ List.mem_cons_self)
  have ht : ∀ w ∈ wC, w.before _ s = true := fun w h => hts w (List.mem_cons_of_mem _ h)
  have hown : s.vm.findClass R_LW = some m.cls := findClass_of_methodNamed B.named
  have hlocks := B.notSynchronized
  have hK := hKL.sub (tys' := tyC cs) [0, 1, 2] rfl
  have hP := app_l hPP
  have hPo := app_r hPP
  have hS : va_S (aO ad o) s.heap s.heap [] := va_S.rf
  have hl := lv_entry ([.ref (ad 0), .int p1, .double p2, .ref o]) (n := 6) (Nat.le_of_ble_eq_true rfl)
  rw [lg_entry_eq]
  generalize (lg_sl ([.ref (ad 0), .int p1, .double p2, .ref o]) ++ List.replicate (6 - (lg_sl ([.ref (ad 0), .int p1, .double p2, .ref o])).length) Slot.unset).toArray = ls at hl ⊢
  have hl : lv_has ls 6 [(0, .ref (ad 0)), (1, .int p1), (2, .double p2), (4, .ref o)] := hl
  unfold wp_LW_put at hq
  refine lv_aload hx hb d_LW_put_0 (lv_at hl 3 rfl) ?_
  refine lv_iconst (v := 0) hx hb d_LW_put_2 (by decide) ?_
  refine lv_aload_n hx hb d_LW_put_3 rfl (lv_at hl 0 rfl) ?_
  refine lv_iload_n hx hb d_LW_put_4 rfl (lv_at hl 1 rfl) ?_
  refine lv_dload_n hx hb d_LW_put_5 rfl (lv_at hl 2 rfl) ?_
  refine vx_calld (vx_runV (As := [.int p1, .double p2]) (rest := [.int 0, .ref o]) ⟨hx, hb, hml, hown, hts⟩ (c_NF_put hst (D := D) (cs := cs) hi hq) (cwV 2 hts (good_V wC_405 wC_406 wC_407 wC_44 wC_408) rfl rfl rfl (by decide +kernel) ⟨(show 6 + 1 ≤ 7 by decide), (show 8 + (6 + 11) + 90 ≤ 115 by decide)⟩) ⟨pP_blind, va_recv hK hP (ci := 0) (q0 := 0) rfl (wd_at (by decide) rfl), fun U hU hW => ⟨rfl, ⟨by rw [hU]; exact hP, va_K.moved hW.alike hK, hN.warm hW⟩, (hXW.narrow (fun q h => Or.inl h)).to va_S.rf hU hW⟩⟩ rfl rfl hl.1 rfl (lv_room (Nat.le_of_ble_eq_true rfl)) d_LW_put_6 ⟨Nat.le_of_ble_eq_true rfl, Nat.le_of_ble_eq_true rfl⟩) hS (fun q _ h => Or.inl h) (fun q h => Or.inl h) (fun q _ h => Or.inl h) (fun E ce q9 u t H locs ht0 hvm _ hB hz1 hk1 hS h1 h2 h3 => ?_) (fun r u t H locs ht0 hvm hq hB hz1 hk1 hS => ?_)
  · obtain ⟨hq, hP⟩ := hB
    rw [ht0] at hP
    have hPo := keep_o hPo ho hk1
    rcases hq with ⟨rfl, hq⟩
    · refine vx_catch hown [] ⟨0, 10, 13, 13⟩ [] htab (fun z hz => by cases hz) (by decide) (by decide) (ht _ wC_248) (va_Nw.use rfl (hN _ wN_277)) h1 h2 h3 ?_
      refine lv_astore (lv' := [(5, .ref q9), (0, .ref (ad 0)), (1, .int p1), (2, .double p2), (4, .ref o)]) hx hb d_LW_put_13 hl (by decide) rfl (fun ls hl => ?_)
      refine lv_iconst (v := 1) hx hb d_LW_put_15 (by decide) ?_
      exact W.iret hx hb hr (fun t ht hW => ⟨⟨1, (u, f), rfl, hq, by show va_P _ _ _ t.heap; rw [ht]; exact hP.app hPo⟩, hS.F ht⟩) hS.2.2 d_LW_put_16
  · obtain ⟨hP, -, -⟩ := hB
    rw [ht0] at hP
    have hPP := hP.app (keep_o hPo ho hk1)
    refine va_dast hx hb hKL hPP (wdo_D hi ho) hS 51 1 wdo_at rfl (show vp_in _ _ by unfold vp_in; decide) d_LW_put_9 (fun H locs hPP hD hS => ?_)
    rw [wdo_set] at hPP
    refine lv_goto (tgt := 17) hx hb d_LW_put_10 (by decide) ?_
    refine lv_iconst (v := 0) hx hb d_LW_put_17 (by decide) ?_
    exact W.iret hx hb hr (fun t ht hW => ⟨⟨0, (u, vf_upd f 0 r), rfl, hq, by show va_P _ _ _ t.heap; rw [ht]; exact hPP⟩, hS.F ht⟩) hS.2.2 d_LW_put_18
def wp_LW_work (p1 : Int32) (σ : CS) (f : Nat → UInt64) (Q : Int32 → CS → (Nat → UInt64) → Prop) : Prop := wp_NF_work p1 σ (fun r s => Q 0 s (vf_upd f 0 r)) (fun E s => (E = "java/lang/IllegalArgumentException" ∧ Q 1 s f) ∨ (E = "java/lang/ArithmeticException" ∧ Q 2 s f) ∨ (E = "java/lang/IndexOutOfBoundsException" ∧ Q 3 s f) ∨ (E = "java/lang/UnsupportedOperationException" ∧ Q 4 s f) ∨ (E = "java/util/NoSuchElementException" ∧ Q 5 s f) ∨ (E = "java/lang/IllegalStateException" ∧ Q 6 s f))
set_option maxHeartbeats 4000000 in
set_option maxRecDepth 100000 in
theorem c_LW_work {l : Launch} (hst : l.stackTraces = false) {D : va_G} {cs : CI} {cL : ClassId} {ad : Nat → Nat} (hi : aI ad 51) {o : Nat} (ho : ¬ aK ad 51 o) {p1 : Int32} {σ : CS} {f : Nat → UInt64} {Q : Int32 → CS → (Nat → UInt64) → Prop} (hq : wp_LW_work p1 σ f Q) : Met l y_LW_work (.codeWith y_LW_work b_LW_work 4 (some .int) [(0, 8, 11, 13), (0, 8, 14, 32), (0, 8, 17, 34), (0, 8, 20, 36), (0, 8, 23, 38), (0, 8, 26, 15)] :: wC) ({ frames := 1628, cells := 1, slots := 6, locals := 46662 }) (va_Pc [.ref (ad 0), .int p1, .ref o] (hPre D cs cL ad (aO ad o) (wd ad (cont ad cs σ) 51 ++ [(o, .inl (cs.2.1, 1, .inr (.inr (.inr (.inl f)))))]))) (va_Qi (fun r (u : CS × (Nat → UInt64)) => Q r u.1 u.2) (fun u t => va_P D clA (wd ad (cont ad cs u.1) 51 ++ [(o, .inl (cs.2.1, 1, .inr (.inr (.inr (.inl u.2)))))]) t.heap) (aO ad o)) 1 6 (aO ad o) := by
  refine va_MetW (cc := b_LW_work) (maxL := 4) (ret := (some .int)) (hh := [(0, 8, 11, 13), (0, 8, 14, 32), (0, 8, 17, 34), (0, 8, 20, 36), (0, 8, 23, 38), (0, 8, 26, 15)]) (by decide) rfl ?_
  intro p e s m args below meth c s₁ B hml hv
  obtain ⟨rfl, hPP, hKL, hN, hXW, hNC⟩ := hv
  have hx := B.exec
  have hb := B.bytes
  have hr := B.returns
  have hts := atoms_spec (ws := .codeWith y_LW_work b_LW_work 4 (some .int) [(0, 8, 11, 13), (0, 8, 14, 32), (0, 8, 17, 34), (0, 8, 20, 36), (0, 8, 23, 38), (0, 8, 26, 15)] :: wC) B.pre
  have htab := vx_table (x := y_LW_work) B (hts _ List.mem_cons_self)
  have ht : ∀ w ∈ wC, w.before _ s = true := fun w h => hts w (List.mem_cons_of_mem _ h)
  have hown : s.vm.findClass R_LW = some m.cls := findClass_of_methodNamed B.named
  have hlocks := B.notSynchronized
  have hK := hKL.sub (tys' := tyC cs) [0, 1, 2] rfl
  have hP := app_l hPP
  have hPo := app_r hPP
  have hS : va_S (aO ad o) s.heap s.heap [] := va_S.rf
  have hl := lv_entry ([.ref (ad 0), .int p1, .ref o]) (n := 4) (Nat.le_of_ble_eq_true rfl)
  rw [lg_entry_eq]
  generalize (lg_sl ([.ref (ad 0), .int p1, .ref o]) ++ List.replicate (4 - (lg_sl ([.ref (ad 0), .int p1, .ref o])).length) Slot.unset).toArray = ls at hl ⊢
  have hl : lv_has ls 4 [(0, .ref (ad 0)), (1, .int p1), (2, .ref o)] := hl
  unfold wp_LW_work at hq
  refine lv_aload_n hx hb d_LW_work_0 rfl (lv_at hl 2 rfl) ?_
  refine lv_iconst (v := 0) hx hb d_LW_work_1 (by decide) ?_
  refine lv_aload_n hx hb d_LW_work_2 rfl (lv_at hl 0 rfl) ?_
  refine lv_iload_n hx hb d_LW_work_3 rfl (lv_at hl 1 rfl) ?_
  refine vx_calld (vx_runV (As := [.int p1]) (rest := [.int 0, .ref o]) ⟨hx, hb, hml, hown, hts⟩ (c_NF_work hst (D := D) (cs := cs) hi hq) (cwV 1 hts (good_V wC_430 wC_431 wC_432 wC_44 wC_433) rfl rfl rfl (by decide +kernel) ⟨(show 1627 + 1 ≤ 1628 by decide), (show 8 + (4 + 11) + 46639 ≤ 46662 by decide)⟩) ⟨pP_blind, va_recv hK hP (ci := 0) (q0 := 0) rfl (wd_at (by decide) rfl), fun U hU hW => ⟨rfl, ⟨by rw [hU]; exact hP, va_K.moved hW.alike hK, hN.warm hW⟩, (hXW.narrow (fun q h => Or.inl h)).to va_S.rf hU hW⟩⟩ rfl rfl hl.1 rfl (lv_room (Nat.le_of_ble_eq_true rfl)) d_LW_work_4 ⟨Nat.le_of_ble_eq_true rfl, Nat.le_of_ble_eq_true rfl⟩) hS (fun q _ h => Or.inl h) (fun q h => Or.inl h) (fun q _ h => Or.inl h) (fun E ce q9 u t H locs ht0 hvm _ hB hz1 hk1 hS h1 h2 h3 => ?_) (fun r u t H locs ht0 hvm hq hB hz1 hk1 hS => ?_)
  · obtain ⟨hq, hP⟩ := hB
    rw [ht0] at hP
    have hPo := keep_o hPo ho hk1
    rcases hq with ⟨rfl, hq⟩ | ⟨rfl, hq⟩ | ⟨rfl, hq⟩ | ⟨rfl, hq⟩ | ⟨rfl, hq⟩ | ⟨rfl, hq⟩
    · refine vx_catch hown [] ⟨0, 8, 11, 13⟩ [⟨0, 8, 14, 32⟩, ⟨0, 8, 17, 34⟩, ⟨0, 8, 20, 36⟩, ⟨0, 8, 23, 38⟩, ⟨0, 8, 26, 15⟩] htab (fun z hz => by cases hz) (by decide) (by decide) (ht _ wC_248) (va_Nw.use rfl (hN _ wN_277)) h1 h2 h3 ?_
      refine lv_astore_n (lv' := [(3, .ref q9), (0, .ref (ad 0)), (1, .int p1), (2, .ref o)]) hx hb d_LW_work_11 rfl hl (by decide) rfl (fun ls hl => ?_)
      refine lv_iconst (v := 1) hx hb d_LW_work_12 (by decide) ?_
      exact W.iret hx hb hr (fun t ht hW => ⟨⟨1, (u, f), rfl, hq, by show va_P _ _ _ t.heap; rw [ht]; exact hP.app hPo⟩, hS.F ht⟩) hS.2.2 d_LW_work_13
    · refine vx_catch hown [⟨0, 8, 11, 13⟩] ⟨0, 8, 14, 32⟩ [⟨0, 8, 17, 34⟩, ⟨0, 8, 20, 36⟩, ⟨0, 8, 23, 38⟩, ⟨0, 8, 26, 15⟩] htab (fun z hz => by
        simp only [List.mem_cons, List.not_mem_nil, or_false] at hz
        rcases hz with rfl
        · exact Or.inr ⟨by decide, _, (ht _ wC_248), hNC _ _ (by simp [ncL])⟩) (by decide) (by decide) (ht _ wC_426) (va_Nw.use rfl (hN _ wN_576)) h1 h2 h3 ?_
      refine lv_astore_n (lv' := [(3, .ref q9), (0, .ref (ad 0)), (1, .int p1), (2, .ref o)]) hx hb d_LW_work_14 rfl hl (by decide) rfl (fun ls hl => ?_)
      refine lv_iconst (v := 2) hx hb d_LW_work_15 (by decide) ?_
      exact W.iret hx hb hr (fun t ht hW => ⟨⟨2, (u, f), rfl, hq, by show va_P _ _ _ t.heap; rw [ht]; exact hP.app hPo⟩, hS.F ht⟩) hS.2.2 d_LW_work_16
    · refine vx_catch hown [⟨0, 8, 11, 13⟩, ⟨0, 8, 14, 32⟩] ⟨0, 8, 17, 34⟩ [⟨0, 8, 20, 36⟩, ⟨0, 8, 23, 38⟩, ⟨0, 8, 26, 15⟩] htab (fun z hz => by
        simp only [List.mem_cons, List.not_mem_nil, or_false] at hz
        rcases hz with rfl | rfl
        · exact Or.inr ⟨by decide, _, (ht _ wC_248), hNC _ _ (by simp [ncL])⟩
        · exact Or.inr ⟨by decide, _, (ht _ wC_426), hNC _ _ (by simp [ncL])⟩) (by decide) (by decide) (ht _ wC_427) (va_Nw.use rfl (hN _ wN_593)) h1 h2 h3 ?_
      refine lv_astore_n (lv' := [(3, .ref q9), (0, .ref (ad 0)), (1, .int p1), (2, .ref o)]) hx hb d_LW_work_17 rfl hl (by decide) rfl (fun ls hl => ?_)
      refine lv_iconst (v := 3) hx hb d_LW_work_18 (by decide) ?_
      exact W.iret hx hb hr (fun t ht hW => ⟨⟨3, (u, f), rfl, hq, by show va_P _ _ _ t.heap; rw [ht]; exact hP.app hPo⟩, hS.F ht⟩) hS.2.2 d_LW_work_19
    · refine vx_catch hown [⟨0, 8, 11, 13⟩, ⟨0, 8, 14, 32⟩, ⟨0, 8, 17, 34⟩] ⟨0, 8, 20, 36⟩ [⟨0, 8, 23, 38⟩, ⟨0, 8, 26, 15⟩] htab (fun z hz => by
        simp only [List.mem_cons, List.not_mem_nil, or_false] at hz
        rcases hz with rfl | rfl | rfl
        · exact Or.inr ⟨by decide, _, (ht _ wC_248), hNC _ _ (by simp [ncL])⟩
        · exact Or.inr ⟨by decide, _, (ht _ wC_426), hNC _ _ (by simp [ncL])⟩
        · exact Or.inr ⟨by decide, _, (ht _ wC_427), hNC _ _ (by simp [ncL])⟩) (by decide) (by decide) (ht _ wC_428) (va_Nw.use rfl (hN _ wN_609)) h1 h2 h3 ?_
      refine lv_astore_n (lv' := [(3, .ref q9), (0, .ref (ad 0)), (1, .int p1), (2, .ref o)]) hx hb d_LW_work_20 rfl hl (by decide) rfl (fun ls hl => ?_)
      refine lv_iconst (v := 4) hx hb d_LW_work_21 (by decide) ?_
      exact W.iret hx hb hr (fun t ht hW => ⟨⟨4, (u, f), rfl, hq, by show va_P _ _ _ t.heap; rw [ht]; exact hP.app hPo⟩, hS.F ht⟩) hS.2.2 d_LW_work_22
    · refine vx_catch hown [⟨0, 8, 11, 13⟩, ⟨0, 8, 14, 32⟩, ⟨0, 8, 17, 34⟩, ⟨0, 8, 20, 36⟩] ⟨0, 8, 23, 38⟩ [⟨0, 8, 26, 15⟩] htab (fun z hz => by
        simp only [List.mem_cons, List.not_mem_nil, or_false] at hz
        rcases hz with rfl | rfl | rfl | rfl
        · exact Or.inr ⟨by decide, _, (ht _ wC_248), hNC _ _ (by simp [ncL])⟩
        · exact Or.inr ⟨by decide, _, (ht _ wC_426), hNC _ _ (by simp [ncL])⟩
        · exact Or.inr ⟨by decide, _, (ht _ wC_427), hNC _ _ (by simp [ncL])⟩
        · exact Or.inr ⟨by decide, _, (ht _ wC_428), hNC _ _ (by simp [ncL])⟩) (by decide) (by decide) (ht _ wC_429) (va_Nw.use rfl (hN _ wN_625)) h1 h2 h3 ?_
      refine lv_astore_n (lv' := [(3, .ref q9), (0, .ref (ad 0)), (1, .int p1), (2, .ref o)]) hx hb d_LW_work_23 rfl hl (by decide) rfl (fun ls hl => ?_)
      refine lv_iconst (v := 5) hx hb d_LW_work_24 (by decide) ?_
      exact W.iret hx hb hr (fun t ht hW => ⟨⟨5, (u, f), rfl, hq, by show va_P _ _ _ t.heap; rw [ht]; exact hP.app hPo⟩, hS.F ht⟩) hS.2.2 d_LW_work_25
    · refine vx_catch hown [⟨0, 8, 11, 13⟩, ⟨0, 8, 14, 32⟩, ⟨0, 8, 17, 34⟩, ⟨0, 8, 20, 36⟩, ⟨0, 8, 23, 38⟩] ⟨0, 8, 26, 15⟩ [] htab (fun z hz => by
        simp only [List.mem_cons, List.not_mem_nil, or_false] at hz
        rcases hz with rfl | rfl | rfl | rfl | rfl
        · exact Or.inr ⟨by decide, _, (ht _ wC_248), hNC _ _ (by simp [ncL])⟩
        · exact Or.inr ⟨by decide, _, (ht _ wC_426), hNC _ _ (by simp [ncL])⟩
        · exact Or.inr ⟨by decide, _, (ht _ wC_427), hNC _ _ (by simp [ncL])⟩
        · exact Or.inr ⟨by decide, _, (ht _ wC_428), hNC _ _ (by simp [ncL])⟩
        · exact Or.inr ⟨by decide, _, (ht _ wC_429), hNC _ _ (by simp [ncL])⟩) (by decide) (by decide) (ht _ wC_249) (va_Nw.use rfl (hN _ wN_348)) h1 h2 h3 ?_
      refine lv_astore_n (lv' := [(3, .ref q9), (0, .ref (ad 0)), (1, .int p1), (2, .ref o)]) hx hb d_LW_work_26 rfl hl (by decide) rfl (fun ls hl => ?_)
      refine lv_bipush (v := 6) hx hb d_LW_work_27 (by decide) ?_
      exact W.iret hx hb hr (fun t ht hW => ⟨⟨6, (u, f), rfl, hq, by show va_P _ _ _ t.heap; rw [ht]; exact hP.app hPo⟩, hS.F ht⟩) hS.2.2 d_LW_work_29
  · obtain ⟨hP, -, -⟩ := hB
    rw [ht0] at hP
    have hPP := hP.app (keep_o hPo ho hk1)
    refine va_dast hx hb hKL hPP (wdo_D hi ho) hS 51 1 wdo_at rfl (show vp_in _ _ by unfold vp_in; decide) d_LW_work_7 (fun H locs hPP hD hS => ?_)
    rw [wdo_set] at hPP
    refine lv_goto (tgt := 30) hx hb d_LW_work_8 (by decide) ?_
    refine lv_iconst (v := 0) hx hb d_LW_work_30 (by decide) ?_
    exact W.iret hx hb hr (fun t ht hW => ⟨⟨0, (u, vf_upd f 0 r), rfl, hq, by show va_P _ _ _ t.heap; rw [ht]; exact hPP⟩, hS.F ht⟩) hS.2.2 d_LW_work_31
def wp_LW_variable (p1 : Int32) (σ : CS) (f : Nat → UInt64) (Q : Int32 → CS → (Nat → UInt64) → Prop) : Prop := wp_NF_variable p1 σ (fun r s => Q 0 s (vf_upd f 0 r)) (fun E s => (E = "java/lang/IllegalArgumentException" ∧ Q 1 s f))
set_option maxHeartbeats 4000000 in
set_option maxRecDepth 100000 in
theorem c_LW_variable {l : Launch} (hst : l.stackTraces = false) {D : va_G} {cs : CI} {cL : ClassId} {ad : Nat → Nat} (hi : aI ad 51) {o : Nat} (ho : ¬ aK ad 51 o) {p1 : Int32} {σ : CS} {f : Nat → UInt64} {Q : Int32 → CS → (Nat → UInt64) → Prop} (hq : wp_LW_variable p1 σ f Q) : Met l y_LW_variable (.codeWith y_LW_variable b_LW_variable 4 (some .int) [(0, 8, 11, 13)] :: wC) ({ frames := 7, cells := 1, slots := 6, locals := 111 }) (va_Pc [.ref (ad 0), .int p1, .ref o] (hPre D cs cL ad (aO ad o) (wd ad (cont ad cs σ) 51 ++ [(o, .inl (cs.2.1, 1, .inr (.inr (.inr (.inl f)))))]))) (va_Qi (fun r (u : CS × (Nat → UInt64)) => Q r u.1 u.2) (fun u t => va_P D clA (wd ad (cont ad cs u.1) 51 ++ [(o, .inl (cs.2.1, 1, .inr (.inr (.inr (.inl u.2)))))]) t.heap) (aO ad o)) 1 6 (aO ad o) := by
  refine va_MetW (cc := b_LW_variable) (maxL := 4) (ret := (some .int)) (hh := [(0, 8, 11, 13)]) (by decide) rfl ?_
  intro p e s m args below meth c s₁ B hml hv
  obtain ⟨rfl, hPP, hKL, hN, hXW, hNC⟩ := hv
  have hx := B.exec
  have hb := B.bytes
  have hr := B.returns
  have hts := atoms_spec (ws := .codeWith y_LW_variable b_LW_variable 4 (some .int) [(0, 8, 11, 13)] :: wC) B.pre
  have htab := vx_table (x := y_LW_variable) B (hts _ List.mem_cons_self)
  have ht : ∀ w ∈ wC, w.before _ s = true := fun w h => hts w (List.mem_cons_of_mem _ h)
  have hown : s.vm.findClass R_LW = some m.cls := findClass_of_methodNamed B.named
  have hlocks := B.notSynchronized
  have hK := hKL.sub (tys' := tyC cs) [0, 1, 2] rfl
  have hP := app_l hPP
  have hPo := app_r hPP
  have hS : va_S (aO ad o) s.heap s.heap [] := va_S.rf
  have hl := lv_entry ([.ref (ad 0), .int p1, .ref o]) (n := 4) (Nat.le_of_ble_eq_true rfl)
  rw [lg_entry_eq]
  generalize (lg_sl ([.ref (ad 0), .int p1, .ref o]) ++ List.replicate (4 - (lg_sl ([.ref (ad 0), .int p1, .ref o])).length) Slot.unset).toArray = ls at hl ⊢
  have hl : lv_has ls 4 [(0, .ref (ad 0)), (1, .int p1), (2, .ref o)] := hl
  unfold wp_LW_variable at hq
  refine lv_aload_n hx hb d_LW_variable_0 rfl (lv_at hl 2 rfl) ?_
  refine lv_iconst (v := 0) hx hb d_LW_variable_1 (by decide) ?_
  refine lv_aload_n hx hb d_LW_variable_2 rfl (lv_at hl 0 rfl) ?_
  refine lv_iload_n hx hb d_LW_variable_3 rfl (lv_at hl 1 rfl) ?_
  refine vx_calld (vx_runV (As := [.int p1]) (rest := [.int 0, .ref o]) ⟨hx, hb, hml, hown, hts⟩ (c_NF_variable hst (D := D) (cs := cs) hi hq) (cwV 1 hts (good_V wC_645 wC_646 wC_647 wC_44 wC_648) rfl rfl rfl (by decide +kernel) ⟨(show 6 + 1 ≤ 7 by decide), (show 8 + (2 + 11) + 90 ≤ 111 by decide)⟩) ⟨pP_blind, va_recv hK hP (ci := 0) (q0 := 0) rfl (wd_at (by decide) rfl), fun U hU hW => ⟨rfl, ⟨by rw [hU]; exact hP, va_K.moved hW.alike hK, hN.warm hW⟩, (hXW.narrow (fun q h => Or.inl h)).to va_S.rf hU hW⟩⟩ rfl rfl hl.1 rfl (lv_room (Nat.le_of_ble_eq_true rfl)) d_LW_variable_4 ⟨Nat.le_of_ble_eq_true rfl, Nat.le_of_ble_eq_true rfl⟩) hS (fun q _ h => Or.inl h) (fun q h => Or.inl h) (fun q _ h => Or.inl h) (fun E ce q9 u t H locs ht0 hvm _ hB hz1 hk1 hS h1 h2 h3 => ?_) (fun r u t H locs ht0 hvm hq hB hz1 hk1 hS => ?_)
  · obtain ⟨hq, hP⟩ := hB
    rw [ht0] at hP
    have hPo := keep_o hPo ho hk1
    rcases hq with ⟨rfl, hq⟩
    · refine vx_catch hown [] ⟨0, 8, 11, 13⟩ [] htab (fun z hz => by cases hz) (by decide) (by decide) (ht _ wC_248) (va_Nw.use rfl (hN _ wN_277)) h1 h2 h3 ?_
      refine lv_astore_n (lv' := [(3, .ref q9), (0, .ref (ad 0)), (1, .int p1), (2, .ref o)]) hx hb d_LW_variable_11 rfl hl (by decide) rfl (fun ls hl => ?_)
      refine lv_iconst (v := 1) hx hb d_LW_variable_12 (by decide) ?_
      exact W.iret hx hb hr (fun t ht hW => ⟨⟨1, (u, f), rfl, hq, by show va_P _ _ _ t.heap; rw [ht]; exact hP.app hPo⟩, hS.F ht⟩) hS.2.2 d_LW_variable_13
  · obtain ⟨hP, -, -⟩ := hB
    rw [ht0] at hP
    have hPP := hP.app (keep_o hPo ho hk1)
    refine va_dast hx hb hKL hPP (wdo_D hi ho) hS 51 1 wdo_at rfl (show vp_in _ _ by unfold vp_in; decide) d_LW_variable_7 (fun H locs hPP hD hS => ?_)
    rw [wdo_set] at hPP
    refine lv_goto (tgt := 14) hx hb d_LW_variable_8 (by decide) ?_
    refine lv_iconst (v := 0) hx hb d_LW_variable_14 (by decide) ?_
    exact W.iret hx hb hr (fun t ht hW => ⟨⟨0, (u, vf_upd f 0 r), rfl, hq, by show va_P _ _ _ t.heap; rw [ht]; exact hPP⟩, hS.F ht⟩) hS.2.2 d_LW_variable_15
def wp_LW_element (p1 : Int32) (p2 : Int32) (σ : CS) (f : Nat → UInt64) (Q : Int32 → CS → (Nat → UInt64) → Prop) : Prop := wp_NF_element p1 p2 σ (fun r s => Q 0 s (vf_upd f 0 r)) (fun E s => (E = "java/lang/IndexOutOfBoundsException" ∧ Q 1 s f))
set_option maxHeartbeats 4000000 in
set_option maxRecDepth 100000 in
theorem c_LW_element {l : Launch} (hst : l.stackTraces = false) {D : va_G} {cs : CI} {cL : ClassId} {ad : Nat → Nat} (hi : aI ad 51) {o : Nat} (ho : ¬ aK ad 51 o) {p1 : Int32} {p2 : Int32} {σ : CS} {f : Nat → UInt64} {Q : Int32 → CS → (Nat → UInt64) → Prop} (hq : wp_LW_element p1 p2 σ f Q) : Met l y_LW_element (.codeWith y_LW_element b_LW_element 5 (some .int) [(0, 9, 12, 34)] :: wC) ({ frames := 7, cells := 1, slots := 6, locals := 112 }) (va_Pc [.ref (ad 0), .int p1, .int p2, .ref o] (hPre D cs cL ad (aO ad o) (wd ad (cont ad cs σ) 51 ++ [(o, .inl (cs.2.1, 1, .inr (.inr (.inr (.inl f)))))]))) (va_Qi (fun r (u : CS × (Nat → UInt64)) => Q r u.1 u.2) (fun u t => va_P D clA (wd ad (cont ad cs u.1) 51 ++ [(o, .inl (cs.2.1, 1, .inr (.inr (.inr (.inl u.2)))))]) t.heap) (aO ad o)) 1 6 (aO ad o) := by
  refine va_MetW (cc := b_LW_element) (maxL := 5) (ret := (some .int)) (hh := [(0, 9, 12, 34)]) (by decide) rfl ?_
  intro p e s m args below meth c s₁ B hml hv
  obtain ⟨rfl, hPP, hKL, hN, hXW, hNC⟩ := hv
  have hx := B.exec
  have hb := B.bytes
  have hr := B.returns
  have hts := atoms_spec (ws := .codeWith y_LW_element b_LW_element 5 (some .int) [(0, 9, 12, 34)] :: wC) B.pre
  have htab := vx_table (x := y_LW_element) B (hts _ List.mem_cons_self)
  have ht : ∀ w ∈ wC, w.before _ s = true := fun w h => hts w (List.mem_cons_of_mem _ h)
  have hown : s.vm.findClass R_LW = some m.cls := findClass_of_methodNamed B.named
  have hlocks := B.notSynchronized
  have hK := hKL.sub (tys' := tyC cs) [0, 1, 2] rfl
  have hP := app_l hPP
  have hPo := app_r hPP
  have hS : va_S (aO ad o) s.heap s.heap [] := va_S.rf
  have hl := lv_entry ([.ref (ad 0), .int p1, .int p2, .ref o]) (n := 5) (Nat.le_of_ble_eq_true rfl)
  rw [lg_entry_eq]
  generalize (lg_sl ([.ref (ad 0), .int p1, .int p2, .ref o]) ++ List.replicate (5 - (lg_sl ([.ref (ad 0), .int p1, .int p2, .ref o])).length) Slot.unset).toArray = ls at hl ⊢
  have hl : lv_has ls 5 [(0, .ref (ad 0)), (1, .int p1), (2, .int p2), (3, .ref o)] := hl
  unfold wp_LW_element at hq
  refine lv_aload_n hx hb d_LW_element_0 rfl (lv_at hl 3 rfl) ?_
  refine lv_iconst (v := 0) hx hb d_LW_element_1 (by decide) ?_
  refine lv_aload_n hx hb d_LW_element_2 rfl (lv_at hl 0 rfl) ?_
  refine lv_iload_n hx hb d_LW_element_3 rfl (lv_at hl 1 rfl) ?_
  refine lv_iload_n hx hb d_LW_element_4 rfl (lv_at hl 2 rfl) ?_
  refine vx_calld (vx_runV (As := [.int p1, .int p2]) (rest := [.int 0, .ref o]) ⟨hx, hb, hml, hown, hts⟩ (c_NF_element hst (D := D) (cs := cs) hi hq) (cwV 2 hts (good_V wC_653 wC_654 wC_655 wC_44 wC_656) rfl rfl rfl (by decide +kernel) ⟨(show 6 + 1 ≤ 7 by decide), (show 8 + (3 + 11) + 90 ≤ 112 by decide)⟩) ⟨pP_blind, va_recv hK hP (ci := 0) (q0 := 0) rfl (wd_at (by decide) rfl), fun U hU hW => ⟨rfl, ⟨by rw [hU]; exact hP, va_K.moved hW.alike hK, hN.warm hW⟩, (hXW.narrow (fun q h => Or.inl h)).to va_S.rf hU hW⟩⟩ rfl rfl hl.1 rfl (lv_room (Nat.le_of_ble_eq_true rfl)) d_LW_element_5 ⟨Nat.le_of_ble_eq_true rfl, Nat.le_of_ble_eq_true rfl⟩) hS (fun q _ h => Or.inl h) (fun q h => Or.inl h) (fun q _ h => Or.inl h) (fun E ce q9 u t H locs ht0 hvm _ hB hz1 hk1 hS h1 h2 h3 => ?_) (fun r u t H locs ht0 hvm hq hB hz1 hk1 hS => ?_)
  · obtain ⟨hq, hP⟩ := hB
    rw [ht0] at hP
    have hPo := keep_o hPo ho hk1
    rcases hq with ⟨rfl, hq⟩
    · refine vx_catch hown [] ⟨0, 9, 12, 34⟩ [] htab (fun z hz => by cases hz) (by decide) (by decide) (ht _ wC_427) (va_Nw.use rfl (hN _ wN_593)) h1 h2 h3 ?_
      refine lv_astore (lv' := [(4, .ref q9), (0, .ref (ad 0)), (1, .int p1), (2, .int p2), (3, .ref o)]) hx hb d_LW_element_12 hl (by decide) rfl (fun ls hl => ?_)
      refine lv_iconst (v := 1) hx hb d_LW_element_14 (by decide) ?_
      exact W.iret hx hb hr (fun t ht hW => ⟨⟨1, (u, f), rfl, hq, by show va_P _ _ _ t.heap; rw [ht]; exact hP.app hPo⟩, hS.F ht⟩) hS.2.2 d_LW_element_15
  · obtain ⟨hP, -, -⟩ := hB
    rw [ht0] at hP
    have hPP := hP.app (keep_o hPo ho hk1)
    refine va_dast hx hb hKL hPP (wdo_D hi ho) hS 51 1 wdo_at rfl (show vp_in _ _ by unfold vp_in; decide) d_LW_element_8 (fun H locs hPP hD hS => ?_)
    rw [wdo_set] at hPP
    refine lv_goto (tgt := 16) hx hb d_LW_element_9 (by decide) ?_
    refine lv_iconst (v := 0) hx hb d_LW_element_16 (by decide) ?_
    exact W.iret hx hb hr (fun t ht hW => ⟨⟨0, (u, vf_upd f 0 r), rfl, hq, by show va_P _ _ _ t.heap; rw [ht]; exact hPP⟩, hS.F ht⟩) hS.2.2 d_LW_element_17
def wp_LW_node (p1 : Int32) (p2 : Int32) (σ : CS) (f : Nat → Int64) (Q : Int32 → CS → (Nat → Int64) → Prop) : Prop := wp_NF_node p1 p2 σ (fun r s => Q 0 s (vp_updL f 0 r.toInt64)) (fun E s => (E = "java/lang/IllegalArgumentException" ∧ Q 1 s f) ∨ (E = "java/lang/IndexOutOfBoundsException" ∧ Q 2 s f))
set_option maxHeartbeats 4000000 in
set_option maxRecDepth 100000 in
theorem c_LW_node {l : Launch} (hst : l.stackTraces = false) {D : va_G} {cs : CI} {cL : ClassId} {ad : Nat → Nat} (hi : aI ad 51) {o : Nat} (ho : ¬ aK ad 51 o) {p1 : Int32} {p2 : Int32} {σ : CS} {f : Nat → Int64} {Q : Int32 → CS → (Nat → Int64) → Prop} (hq : wp_LW_node p1 p2 σ f Q) : Met l y_LW_node (.codeWith y_LW_node b_LW_node 5 (some .int) [(0, 10, 13, 13), (0, 10, 17, 34)] :: wC) ({ frames := 7, cells := 1, slots := 6, locals := 112 }) (va_Pc [.ref (ad 0), .int p1, .int p2, .ref o] (hPre D cs cL ad (aO ad o) (wd ad (cont ad cs σ) 51 ++ [(o, .inl (cL, 1, .inr (.inl f)))]))) (va_Qi (fun r (u : CS × (Nat → Int64)) => Q r u.1 u.2) (fun u t => va_P D clA (wd ad (cont ad cs u.1) 51 ++ [(o, .inl (cL, 1, .inr (.inl u.2)))]) t.heap) (aO ad o)) 1 6 (aO ad o) := by
  refine va_MetW (cc := b_LW_node) (maxL := 5) (ret := (some .int)) (hh := [(0, 10, 13, 13), (0, 10, 17, 34)]) (by decide) rfl ?_
  intro p e s m args below meth c s₁ B hml hv
  obtain ⟨rfl, hPP, hKL, hN, hXW, hNC⟩ := hv
  have hx := B.exec
  have hb := B.bytes
  have hr := B.returns
  have hts := atoms_spec (ws := .codeWith y_LW_node b_LW_node 5 (some .int) [(0, 10, 13, 13), (0, 10, 17, 34)] :: wC) B.pre
  have htab := vx_table (x := y_LW_node) B (hts _ List.mem_cons_self)
  have ht : ∀ w ∈ wC, w.before _ s = true := fun w h => hts w (List.mem_cons_of_mem _ h)
  have hown : s.vm.findClass R_LW = some m.cls := findClass_of_methodNamed B.named
  have hlocks := B.notSynchronized
  have hK := hKL.sub (tys' := tyC cs) [0, 1, 2] rfl
  have hP := app_l hPP
  have hPo := app_r hPP
  have hS : va_S (aO ad o) s.heap s.heap [] := va_S.rf
  have hl := lv_entry ([.ref (ad 0), .int p1, .int p2, .ref o]) (n := 5) (Nat.le_of_ble_eq_true rfl)
  rw [lg_entry_eq]
  generalize (lg_sl ([.ref (ad 0), .int p1, .int p2, .ref o]) ++ List.replicate (5 - (lg_sl ([.ref (ad 0), .int p1, .int p2, .ref o])).length) Slot.unset).toArray = ls at hl ⊢
  have hl : lv_has ls 5 [(0, .ref (ad 0)), (1, .int p1), (2, .int p2), (3, .ref o)] := hl
  unfold wp_LW_node at hq
  refine lv_aload_n hx hb d_LW_node_0 rfl (lv_at hl 3 rfl) ?_
  refine lv_iconst (v := 0) hx hb d_LW_node_1 (by decide) ?_
  refine lv_aload_n hx hb d_LW_node_2 rfl (lv_at hl 0 rfl) ?_
  refine lv_iload_n hx hb d_LW_node_3 rfl (lv_at hl 1 rfl) ?_
  refine lv_iload_n hx hb d_LW_node_4 rfl (lv_at hl 2 rfl) ?_
  refine vx_calli (vx_runV (As := [.int p1, .int p2]) (rest := [.int 0, .ref o]) ⟨hx, hb, hml, hown, hts⟩ (c_NF_node hst (D := D) (cs := cs) hi hq) (cwV 2 hts (good_V wC_663 wC_664 wC_665 wC_44 wC_666) rfl rfl rfl (by decide +kernel) ⟨(show 6 + 1 ≤ 7 by decide), (show 8 + (3 + 11) + 90 ≤ 112 by decide)⟩) ⟨pP_blind, va_recv hK hP (ci := 0) (q0 := 0) rfl (wd_at (by decide) rfl), fun U hU hW => ⟨rfl, ⟨by rw [hU]; exact hP, va_K.moved hW.alike hK, hN.warm hW⟩, (hXW.narrow (fun q h => Or.inl h)).to va_S.rf hU hW⟩⟩ rfl rfl hl.1 rfl (lv_room (Nat.le_of_ble_eq_true rfl)) d_LW_node_5 ⟨Nat.le_of_ble_eq_true rfl, Nat.le_of_ble_eq_true rfl⟩) hS (fun q _ h => Or.inl h) (fun q h => Or.inl h) (fun q _ h => Or.inl h) (fun E ce q9 u t H locs ht0 hvm _ hB hz1 hk1 hS h1 h2 h3 => ?_) (fun r u t H locs ht0 hvm hq hB hz1 hk1 hS => ?_)
  · obtain ⟨hq, hP⟩ := hB
    rw [ht0] at hP
    have hPo := keep_o hPo ho hk1
    rcases hq with ⟨rfl, hq⟩ | ⟨rfl, hq⟩
    · refine vx_catch hown [] ⟨0, 10, 13, 13⟩ [⟨0, 10, 17, 34⟩] htab (fun z hz => by cases hz) (by decide) (by decide) (ht _ wC_248) (va_Nw.use rfl (hN _ wN_277)) h1 h2 h3 ?_
      refine lv_astore (lv' := [(4, .ref q9), (0, .ref (ad 0)), (1, .int p1), (2, .int p2), (3, .ref o)]) hx hb d_LW_node_13 hl (by decide) rfl (fun ls hl => ?_)
      refine lv_iconst (v := 1) hx hb d_LW_node_15 (by decide) ?_
      exact W.iret hx hb hr (fun t ht hW => ⟨⟨1, (u, f), rfl, hq, by show va_P _ _ _ t.heap; rw [ht]; exact hP.app hPo⟩, hS.F ht⟩) hS.2.2 d_LW_node_16
    · refine vx_catch hown [⟨0, 10, 13, 13⟩] ⟨0, 10, 17, 34⟩ [] htab (fun z hz => by
        simp only [List.mem_cons, List.not_mem_nil, or_false] at hz
        rcases hz with rfl
        · exact Or.inr ⟨by decide, _, (ht _ wC_248), hNC _ _ (by simp [ncL])⟩) (by decide) (by decide) (ht _ wC_427) (va_Nw.use rfl (hN _ wN_593)) h1 h2 h3 ?_
      refine lv_astore (lv' := [(4, .ref q9), (0, .ref (ad 0)), (1, .int p1), (2, .int p2), (3, .ref o)]) hx hb d_LW_node_17 hl (by decide) rfl (fun ls hl => ?_)
      refine lv_iconst (v := 2) hx hb d_LW_node_19 (by decide) ?_
      exact W.iret hx hb hr (fun t ht hW => ⟨⟨2, (u, f), rfl, hq, by show va_P _ _ _ t.heap; rw [ht]; exact hP.app hPo⟩, hS.F ht⟩) hS.2.2 d_LW_node_20
  · obtain ⟨hP, -, -⟩ := hB
    rw [ht0] at hP
    have hPP := hP.app (keep_o hPo ho hk1)
    refine lv_i2l hx hb d_LW_node_8 rfl ?_
    refine va_last hx hb hKL hPP (wdo_D hi ho) hS 51 3 wdo_at rfl (show vp_in _ _ by unfold vp_in; decide) d_LW_node_9 (fun H locs hPP hD hS => ?_)
    rw [wdo_set] at hPP
    refine lv_goto (tgt := 21) hx hb d_LW_node_10 (by decide) ?_
    refine lv_iconst (v := 0) hx hb d_LW_node_21 (by decide) ?_
    exact W.iret hx hb hr (fun t ht hW => ⟨⟨0, (u, vp_updL f 0 r.toInt64), rfl, hq, by show va_P _ _ _ t.heap; rw [ht]; exact hPP⟩, hS.F ht⟩) hS.2.2 d_LW_node_22
def wp_LW_count (p1 : Int32) (σ : CS) (f : Nat → Int64) (Q : Int32 → CS → (Nat → Int64) → Prop) : Prop := wp_NF_count p1 σ (fun r s => Q 0 s (vp_updL f 0 r.toInt64)) (fun E s => (E = "java/lang/IllegalArgumentException" ∧ Q 1 s f))
set_option maxHeartbeats 4000000 in
set_option maxRecDepth 100000 in
theorem c_LW_count {l : Launch} (hst : l.stackTraces = false) {D : va_G} {cs : CI} {cL : ClassId} {ad : Nat → Nat} (hi : aI ad 51) {o : Nat} (ho : ¬ aK ad 51 o) {p1 : Int32} {σ : CS} {f : Nat → Int64} {Q : Int32 → CS → (Nat → Int64) → Prop} (hq : wp_LW_count p1 σ f Q) : Met l y_LW_count (.codeWith y_LW_count b_LW_count 4 (some .int) [(0, 9, 12, 13)] :: wC) ({ frames := 7, cells := 1, slots := 6, locals := 111 }) (va_Pc [.ref (ad 0), .int p1, .ref o] (hPre D cs cL ad (aO ad o) (wd ad (cont ad cs σ) 51 ++ [(o, .inl (cL, 1, .inr (.inl f)))]))) (va_Qi (fun r (u : CS × (Nat → Int64)) => Q r u.1 u.2) (fun u t => va_P D clA (wd ad (cont ad cs u.1) 51 ++ [(o, .inl (cL, 1, .inr (.inl u.2)))]) t.heap) (aO ad o)) 1 6 (aO ad o) := by
  refine va_MetW (cc := b_LW_count) (maxL := 4) (ret := (some .int)) (hh := [(0, 9, 12, 13)]) (by decide) rfl ?_
  intro p e s m args below meth c s₁ B hml hv
  obtain ⟨rfl, hPP, hKL, hN, hXW, hNC⟩ := hv
  have hx := B.exec
  have hb := B.bytes
  have hr := B.returns
  have hts := atoms_spec (ws := .codeWith y_LW_count b_LW_count 4 (some .int) [(0, 9, 12, 13)] :: wC) B.pre
  have htab := vx_table (x := y_LW_count) B (hts _ List.mem_cons_self)
  have ht : ∀ w ∈ wC, w.before _ s = true := fun w h => hts w (List.mem_cons_of_mem _ h)
  have hown : s.vm.findClass R_LW = some m.cls := findClass_of_methodNamed B.named
  have hlocks := B.notSynchronized
  have hK := hKL.sub (tys' := tyC cs) [0, 1, 2] rfl
  have hP := app_l hPP
  have hPo := app_r hPP
  have hS : va_S (aO ad o) s.heap s.heap [] := va_S.rf
  have hl := lv_entry ([.ref (ad 0), .int p1, .ref o]) (n := 4) (Nat.le_of_ble_eq_true rfl)
  rw [lg_entry_eq]
  generalize (lg_sl ([.ref (ad 0), .int p1, .ref o]) ++ List.replicate (4 - (lg_sl ([.ref (ad 0), .int p1, .ref o])).length) Slot.unset).toArray = ls at hl ⊢
  have hl : lv_has ls 4 [(0, .ref (ad 0)), (1, .int p1), (2, .ref o)] := hl
  unfold wp_LW_count at hq
  refine lv_aload_n hx hb d_LW_count_0 rfl (lv_at hl 2 rfl) ?_
  refine lv_iconst (v := 0) hx hb d_LW_count_1 (by decide) ?_
  refine lv_aload_n hx hb d_LW_count_2 rfl (lv_at hl 0 rfl) ?_
  refine lv_iload_n hx hb d_LW_count_3 rfl (lv_at hl 1 rfl) ?_
  refine vx_calli (vx_runV (As := [.int p1]) (rest := [.int 0, .ref o]) ⟨hx, hb, hml, hown, hts⟩ (c_NF_count hst (D := D) (cs := cs) hi hq) (cwV 1 hts (good_V wC_671 wC_672 wC_673 wC_44 wC_674) rfl rfl rfl (by decide +kernel) ⟨(show 6 + 1 ≤ 7 by decide), (show 8 + (2 + 11) + 90 ≤ 111 by decide)⟩) ⟨pP_blind, va_recv hK hP (ci := 0) (q0 := 0) rfl (wd_at (by decide) rfl), fun U hU hW => ⟨rfl, ⟨by rw [hU]; exact hP, va_K.moved hW.alike hK, hN.warm hW⟩, (hXW.narrow (fun q h => Or.inl h)).to va_S.rf hU hW⟩⟩ rfl rfl hl.1 rfl (lv_room (Nat.le_of_ble_eq_true rfl)) d_LW_count_4 ⟨Nat.le_of_ble_eq_true rfl, Nat.le_of_ble_eq_true rfl⟩) hS (fun q _ h => Or.inl h) (fun q h => Or.inl h) (fun q _ h => Or.inl h) (fun E ce q9 u t H locs ht0 hvm _ hB hz1 hk1 hS h1 h2 h3 => ?_) (fun r u t H locs ht0 hvm hq hB hz1 hk1 hS => ?_)
  · obtain ⟨hq, hP⟩ := hB
    rw [ht0] at hP
    have hPo := keep_o hPo ho hk1
    rcases hq with ⟨rfl, hq⟩
    · refine vx_catch hown [] ⟨0, 9, 12, 13⟩ [] htab (fun z hz => by cases hz) (by decide) (by decide) (ht _ wC_248) (va_Nw.use rfl (hN _ wN_277)) h1 h2 h3 ?_
      refine lv_astore_n (lv' := [(3, .ref q9), (0, .ref (ad 0)), (1, .int p1), (2, .ref o)]) hx hb d_LW_count_12 rfl hl (by decide) rfl (fun ls hl => ?_)
      refine lv_iconst (v := 1) hx hb d_LW_count_13 (by decide) ?_
      exact W.iret hx hb hr (fun t ht hW => ⟨⟨1, (u, f), rfl, hq, by show va_P _ _ _ t.heap; rw [ht]; exact hP.app hPo⟩, hS.F ht⟩) hS.2.2 d_LW_count_14
  · obtain ⟨hP, -, -⟩ := hB
    rw [ht0] at hP
    have hPP := hP.app (keep_o hPo ho hk1)
    refine lv_i2l hx hb d_LW_count_7 rfl ?_
    refine va_last hx hb hKL hPP (wdo_D hi ho) hS 51 3 wdo_at rfl (show vp_in _ _ by unfold vp_in; decide) d_LW_count_8 (fun H locs hPP hD hS => ?_)
    rw [wdo_set] at hPP
    refine lv_goto (tgt := 15) hx hb d_LW_count_9 (by decide) ?_
    refine lv_iconst (v := 0) hx hb d_LW_count_15 (by decide) ?_
    exact W.iret hx hb hr (fun t ht hW => ⟨⟨0, (u, vp_updL f 0 r.toInt64), rfl, hq, by show va_P _ _ _ t.heap; rw [ht]; exact hPP⟩, hS.F ht⟩) hS.2.2 d_LW_count_16
