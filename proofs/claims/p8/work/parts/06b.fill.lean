/-! Arrays.fill, of ints and of doubles, over one array -/
def fl {α : Type} (n : Nat) (v : α) (f : Nat → α) : Nat → α := fun j => if j < n then v else f j
theorem fl_0 {α : Type} {v : α} {f : Nat → α} : fl 0 v f = f := by funext j; simp [fl]
theorem fl_in {α : Type} {n j : Nat} {v : α} {f : Nat → α} (h : j < n) : fl n v f j = v := if_pos h
theorem fl_out {α : Type} {n j : Nat} {v : α} {f : Nat → α} (h : n ≤ j) : fl n v f j = f j := if_neg (Nat.not_lt.mpr h)
theorem fl_sI {n : Nat} {v : Int32} {f : Nat → Int32} : upd (fl n v f) n v = fl (n + 1) v f := by
  funext j
  unfold fl upd
  by_cases h : j = n
  · subst h; simp
  · by_cases h2 : j < n
    · simp [h, h2, Nat.lt_succ_of_lt h2]
    · have : ¬ j < n + 1 := by omega
      simp [h, h2, this]
theorem fl_sD {n : Nat} {v : UInt64} {f : Nat → UInt64} : vf_upd (fl n v f) n v = fl (n + 1) v f := by
  funext j
  unfold fl vf_upd
  by_cases h : j = n
  · subst h; simp
  · by_cases h2 : j < n
    · simp [h, h2, Nat.lt_succ_of_lt h2]
    · have : ¬ j < n + 1 := by omega
      simp [h, h2, this]
theorem one_D {a : Nat} {e : va_E} : va_D (fun q => q = a) [(a, e)] := by
  refine ⟨fun i j p q hp hq _ => ?_, fun k q hq => ?_⟩
  · match i, j, hp, hq with
    | 0, 0, _, _ => rfl
    | i + 1, _, hp, _ => simp at hp
    | 0, j + 1, _, hq => simp at hq
  · match k, hq with
    | 0, hq => simp at hq; rw [← hq]
    | k + 1, hq => simp at hq
theorem wd_one {D : va_G} {cl : List vw_C} {ad : Nat → Nat} {ct : Nat → va_E} {n k : Nat} {e : va_E} {H : Heap} (hP : va_P D cl (wd ad ct n) H) (hk : k < n) (he : ct k = e) : va_P D cl [(ad k, e)] H := by
  intro j q hq
  match j, hq with
  | 0, hq =>
    simp at hq
    subst hq
    subst he
    exact wd_Pk hP hk
  | j + 1, hq => simp at hq
abbrev b_AR_fillI : ByteArray := prog_18_method_103_code
def y_AR_fillI : MethodName := ⟨"java/util/Arrays", "fill", "([II)V"⟩
theorem d_AR_fillI_0 : decode b_AR_fillI 0 = .ok (.iconst 0, 1) := by decide +kernel
theorem d_AR_fillI_1 : decode b_AR_fillI 1 = .ok (.istore_n 2, 1) := by decide +kernel
theorem d_AR_fillI_2 : decode b_AR_fillI 2 = .ok (.aload_n 0, 1) := by decide +kernel
theorem d_AR_fillI_3 : decode b_AR_fillI 3 = .ok (.arraylength, 1) := by decide +kernel
theorem d_AR_fillI_4 : decode b_AR_fillI 4 = .ok (.istore_n 3, 1) := by decide +kernel
theorem d_AR_fillI_5 : decode b_AR_fillI 5 = .ok (.iload_n 2, 1) := by decide +kernel
theorem d_AR_fillI_6 : decode b_AR_fillI 6 = .ok (.iload_n 3, 1) := by decide +kernel
theorem d_AR_fillI_7 : decode b_AR_fillI 7 = .ok (.if_icmp .ge 13, 3) := by decide +kernel
theorem d_AR_fillI_10 : decode b_AR_fillI 10 = .ok (.aload_n 0, 1) := by decide +kernel
theorem d_AR_fillI_11 : decode b_AR_fillI 11 = .ok (.iload_n 2, 1) := by decide +kernel
theorem d_AR_fillI_12 : decode b_AR_fillI 12 = .ok (.iload_n 1, 1) := by decide +kernel
theorem d_AR_fillI_13 : decode b_AR_fillI 13 = .ok (.iastore, 1) := by decide +kernel
theorem d_AR_fillI_14 : decode b_AR_fillI 14 = .ok (.iinc 2 1, 3) := by decide +kernel
theorem d_AR_fillI_17 : decode b_AR_fillI 17 = .ok (.goto (-12), 3) := by decide +kernel
theorem d_AR_fillI_20 : decode b_AR_fillI 20 = .ok (.return_, 1) := by decide +kernel
set_option maxHeartbeats 4000000 in
set_option maxRecDepth 100000 in
theorem c_AR_fillI {l : Launch} {D : va_G} {cl : List vw_C} {cA : ClassId} (a n : Nat) (hn : n < 2 ^ 31) (f : Nat → Int32) (v : Int32) : Met l y_AR_fillI (.code y_AR_fillI b_AR_fillI 4 none :: wC) ({ frames := 0, cells := 0, slots := 0, locals := 0 }) (va_Pc [.ref a, .int v] (fun U => va_P D cl [(a, .inl (cA, n, .inl (f)))] U.heap ∧ va_K D cl [(cA, .int)] U)) (va_Qv (fun f2 : Nat → Int32 => f2 = fl n v f) (fun f2 t => va_P D cl [(a, .inl (cA, n, .inl (f2)))] t.heap ∧ va_K D cl [(cA, .int)] t) (fun q => q = a)) 0 0 (fun q => q = a) := by
  refine Met.ofW (cc := b_AR_fillI) (maxL := 4) (ret := none) (by decide) rfl ?_
  intro p e s m args below meth c s₁ B hml hv
  obtain ⟨rfl, hP, hK⟩ := hv
  have hx := B.exec
  have hb := B.bytes
  have hr := B.returns
  have hlocks := B.notSynchronized
  have hS : va_S (fun q => q = a) s.heap s.heap [] := va_S.rf
  have hl := lv_entry ([.ref a, .int v]) (n := 4) (Nat.le_of_ble_eq_true rfl)
  rw [lg_entry_eq]
  generalize (lg_sl ([.ref a, .int v]) ++ List.replicate (4 - (lg_sl ([.ref a, .int v])).length) Slot.unset).toArray = ls at hl ⊢
  have hl : lv_has ls 4 [(0, .ref a), (1, .int v)] := hl
  have loop : ∀ (k i : Nat) (H : Heap) (lo : List Loc) (ls : Array Slot), i + k = n → va_P D cl [(a, .inl (cA, n, .inl (fl i v f)))] H → va_S (fun q => q = a) s.heap H lo → lv_has ls 4 [(3, .int (nI n)), (2, .int (nI i)), (0, .ref a), (1, .int v)] → W p l e (headSpec (.code y_AR_fillI b_AR_fillI 4 none :: wC) ({ frames := 0, cells := 0, slots := 0, locals := 0 })).room s m ([.ref a, .int v] : List Value).toArray below meth c H lo 0 0 (MQ below (va_Qv (fun f2 : Nat → Int32 => f2 = fl n v f) (fun f2 t => va_P D cl [(a, .inl (cA, n, .inl (f2)))] t.heap ∧ va_K D cl [(cA, .int)] t) (fun q => q = a)) ([.ref a, .int v] : List Value).toArray s 0 0 (fun q => q = a)) (F0 m 5 ls []) := by
    intro k
    induction k with
    | zero =>
      intro i H lo ls hik hP hS hl
      have hi : i = n := by omega
      subst hi
      refine lv_iload_n hx hb d_AR_fillI_5 rfl (lv_at hl 1 rfl) ?_
      refine lv_iload_n hx hb d_AR_fillI_6 rfl (lv_at hl 0 rfl) ?_
      refine lv_icmp_ge (tgt := 20) hx hb d_AR_fillI_7 (by decide) (fun c1 => ?_) (fun c1 => absurd (nI_le (Nat.le_refl _) hn) c1)
      exact W.vret hx hb hr (fun t ht hW => ⟨⟨_, rfl, rfl, by rw [ht]; exact hP, va_K.moved hW.alike hK⟩, hS.F ht⟩) hS.2.2 d_AR_fillI_20
    | succ k ih =>
      intro i H lo ls hik hP hS hl
      refine lv_iload_n hx hb d_AR_fillI_5 rfl (lv_at hl 1 rfl) ?_
      refine lv_iload_n hx hb d_AR_fillI_6 rfl (lv_at hl 0 rfl) ?_
      refine lv_icmp_ge (tgt := 20) hx hb d_AR_fillI_7 (by decide) (fun c1 => absurd c1 (nI_ge (by omega) hn)) (fun c1 => ?_)
      refine lv_aload_n hx hb d_AR_fillI_10 rfl (lv_at hl 2 rfl) ?_
      refine lv_iload_n hx hb d_AR_fillI_11 rfl (lv_at hl 1 rfl) ?_
      refine lv_iload_n hx hb d_AR_fillI_12 rfl (lv_at hl 3 rfl) ?_
      refine va_iast hx hb hK hP one_D hS 0 0 rfl rfl (vp_in_nI (by omega) hn) d_AR_fillI_13 (fun H lo hP hD hS => ?_)
      rw [nI_clamp (by omega), fl_sI] at hP
      refine lv_iinc (v := nI (i + 1)) (lv' := [(2, .int (nI (i + 1))), (3, .int (nI n)), (0, .ref a), (1, .int v)]) hx hb d_AR_fillI_14 hl (k := 1) rfl (by rw [← nI_1]; rfl) (by decide) rfl (fun ls hl => ?_)
      refine lv_goto (tgt := 5) hx hb d_AR_fillI_17 (by decide) ?_
      exact ih (i + 1) H lo ls (by omega) hP hS (lv_sub hl [1, 0, 2, 3] rfl)
  refine lv_iconst (v := 0) hx hb d_AR_fillI_0 (by decide) ?_
  refine lv_istore_n (lv' := [(2, .int 0), (0, .ref a), (1, .int v)]) hx hb d_AR_fillI_1 rfl hl (by decide) rfl (fun ls hl => ?_)
  refine lv_aload_n hx hb d_AR_fillI_2 rfl (lv_at hl 1 rfl) ?_
  refine va_alen hx hb hK hP 0 0 rfl rfl rfl d_AR_fillI_3 ?_
  refine lv_istore_n (lv' := [(3, .int (nI n)), (2, .int 0), (0, .ref a), (1, .int v)]) hx hb d_AR_fillI_4 rfl hl (by decide) rfl (fun ls hl => ?_)
  refine loop n 0 _ _ ls (by omega) (by rw [fl_0]; exact hP) hS ?_
  rw [nI_0]
  exact hl
abbrev b_AR_fillD : ByteArray := prog_18_method_113_code
def y_AR_fillD : MethodName := ⟨"java/util/Arrays", "fill", "([DD)V"⟩
theorem d_AR_fillD_0 : decode b_AR_fillD 0 = .ok (.iconst 0, 1) := by decide +kernel
theorem d_AR_fillD_1 : decode b_AR_fillD 1 = .ok (.istore_n 3, 1) := by decide +kernel
theorem d_AR_fillD_2 : decode b_AR_fillD 2 = .ok (.aload_n 0, 1) := by decide +kernel
theorem d_AR_fillD_3 : decode b_AR_fillD 3 = .ok (.arraylength, 1) := by decide +kernel
theorem d_AR_fillD_4 : decode b_AR_fillD 4 = .ok (.istore 4, 2) := by decide +kernel
theorem d_AR_fillD_6 : decode b_AR_fillD 6 = .ok (.iload_n 3, 1) := by decide +kernel
theorem d_AR_fillD_7 : decode b_AR_fillD 7 = .ok (.iload 4, 2) := by decide +kernel
theorem d_AR_fillD_9 : decode b_AR_fillD 9 = .ok (.if_icmp .ge 13, 3) := by decide +kernel
theorem d_AR_fillD_12 : decode b_AR_fillD 12 = .ok (.aload_n 0, 1) := by decide +kernel
theorem d_AR_fillD_13 : decode b_AR_fillD 13 = .ok (.iload_n 3, 1) := by decide +kernel
theorem d_AR_fillD_14 : decode b_AR_fillD 14 = .ok (.dload_n 1, 1) := by decide +kernel
theorem d_AR_fillD_15 : decode b_AR_fillD 15 = .ok (.dastore, 1) := by decide +kernel
theorem d_AR_fillD_16 : decode b_AR_fillD 16 = .ok (.iinc 3 1, 3) := by decide +kernel
theorem d_AR_fillD_19 : decode b_AR_fillD 19 = .ok (.goto (-13), 3) := by decide +kernel
theorem d_AR_fillD_22 : decode b_AR_fillD 22 = .ok (.return_, 1) := by decide +kernel
set_option maxHeartbeats 4000000 in
set_option maxRecDepth 100000 in
theorem c_AR_fillD {l : Launch} {D : va_G} {cl : List vw_C} {cA : ClassId} (a n : Nat) (hn : n < 2 ^ 31) (f : Nat → UInt64) (v : UInt64) : Met l y_AR_fillD (.code y_AR_fillD b_AR_fillD 5 none :: wC) ({ frames := 0, cells := 0, slots := 0, locals := 0 }) (va_Pc [.ref a, .double v] (fun U => va_P D cl [(a, .inl (cA, n, .inr (.inr (.inr (.inl (f))))))] U.heap ∧ va_K D cl [(cA, .double)] U)) (va_Qv (fun f2 : Nat → UInt64 => f2 = fl n v f) (fun f2 t => va_P D cl [(a, .inl (cA, n, .inr (.inr (.inr (.inl (f2))))))] t.heap ∧ va_K D cl [(cA, .double)] t) (fun q => q = a)) 0 0 (fun q => q = a) := by
  refine Met.ofW (cc := b_AR_fillD) (maxL := 5) (ret := none) (by decide) rfl ?_
  intro p e s m args below meth c s₁ B hml hv
  obtain ⟨rfl, hP, hK⟩ := hv
  have hx := B.exec
  have hb := B.bytes
  have hr := B.returns
  have hlocks := B.notSynchronized
  have hS : va_S (fun q => q = a) s.heap s.heap [] := va_S.rf
  have hl := lv_entry ([.ref a, .double v]) (n := 5) (Nat.le_of_ble_eq_true rfl)
  rw [lg_entry_eq]
  generalize (lg_sl ([.ref a, .double v]) ++ List.replicate (5 - (lg_sl ([.ref a, .double v])).length) Slot.unset).toArray = ls at hl ⊢
  have hl : lv_has ls 5 [(0, .ref a), (1, .double v)] := hl
  have loop : ∀ (k i : Nat) (H : Heap) (lo : List Loc) (ls : Array Slot), i + k = n → va_P D cl [(a, .inl (cA, n, .inr (.inr (.inr (.inl (fl i v f))))))] H → va_S (fun q => q = a) s.heap H lo → lv_has ls 5 [(4, .int (nI n)), (3, .int (nI i)), (0, .ref a), (1, .double v)] → W p l e (headSpec (.code y_AR_fillD b_AR_fillD 5 none :: wC) ({ frames := 0, cells := 0, slots := 0, locals := 0 })).room s m ([.ref a, .double v] : List Value).toArray below meth c H lo 0 0 (MQ below (va_Qv (fun f2 : Nat → UInt64 => f2 = fl n v f) (fun f2 t => va_P D cl [(a, .inl (cA, n, .inr (.inr (.inr (.inl (f2))))))] t.heap ∧ va_K D cl [(cA, .double)] t) (fun q => q = a)) ([.ref a, .double v] : List Value).toArray s 0 0 (fun q => q = a)) (F0 m 6 ls []) := by
    intro k
    induction k with
    | zero =>
      intro i H lo ls hik hP hS hl
      have hi : i = n := by omega
      subst hi
      refine lv_iload_n hx hb d_AR_fillD_6 rfl (lv_at hl 1 rfl) ?_
      refine lv_iload hx hb d_AR_fillD_7 (lv_at hl 0 rfl) ?_
      refine lv_icmp_ge (tgt := 22) hx hb d_AR_fillD_9 (by decide) (fun c1 => ?_) (fun c1 => absurd (nI_le (Nat.le_refl _) hn) c1)
      exact W.vret hx hb hr (fun t ht hW => ⟨⟨_, rfl, rfl, by rw [ht]; exact hP, va_K.moved hW.alike hK⟩, hS.F ht⟩) hS.2.2 d_AR_fillD_22
    | succ k ih =>
      intro i H lo ls hik hP hS hl
      refine lv_iload_n hx hb d_AR_fillD_6 rfl (lv_at hl 1 rfl) ?_
      refine lv_iload hx hb d_AR_fillD_7 (lv_at hl 0 rfl) ?_
      refine lv_icmp_ge (tgt := 22) hx hb d_AR_fillD_9 (by decide) (fun c1 => absurd c1 (nI_ge (by omega) hn)) (fun c1 => ?_)
      refine lv_aload_n hx hb d_AR_fillD_12 rfl (lv_at hl 2 rfl) ?_
      refine lv_iload_n hx hb d_AR_fillD_13 rfl (lv_at hl 1 rfl) ?_
      refine lv_dload_n hx hb d_AR_fillD_14 rfl (lv_at hl 3 rfl) ?_
      refine va_dast hx hb hK hP one_D hS 0 0 rfl rfl (vp_in_nI (by omega) hn) d_AR_fillD_15 (fun H lo hP hD hS => ?_)
      rw [nI_clamp (by omega), fl_sD] at hP
      refine lv_iinc (v := nI (i + 1)) (lv' := [(3, .int (nI (i + 1))), (4, .int (nI n)), (0, .ref a), (1, .double v)]) hx hb d_AR_fillD_16 hl (k := 1) rfl (by rw [← nI_1]; rfl) (by decide) rfl (fun ls hl => ?_)
      refine lv_goto (tgt := 6) hx hb d_AR_fillD_19 (by decide) ?_
      exact ih (i + 1) H lo ls (by omega) hP hS (lv_sub hl [1, 0, 2, 3] rfl)
  refine lv_iconst (v := 0) hx hb d_AR_fillD_0 (by decide) ?_
  refine lv_istore_n (lv' := [(3, .int 0), (0, .ref a), (1, .double v)]) hx hb d_AR_fillD_1 rfl hl (by decide) rfl (fun ls hl => ?_)
  refine lv_aload_n hx hb d_AR_fillD_2 rfl (lv_at hl 1 rfl) ?_
  refine va_alen hx hb hK hP 0 0 rfl rfl rfl d_AR_fillD_3 ?_
  refine lv_istore (lv' := [(4, .int (nI n)), (3, .int 0), (0, .ref a), (1, .double v)]) hx hb d_AR_fillD_4 hl (by decide) rfl (fun ls hl => ?_)
  refine loop n 0 _ _ ls (by omega) (by rw [fl_0]; exact hP) hS ?_
  rw [nI_0]
  exact hl
