/-! the law's loop -/
theorem wd_kept {D : va_G} {cl : List vw_C} {ad : Nat → Nat} {ct : Nat → va_E} {n : Nat} {H H1 : Heap} {B : Nat → Prop} (h : va_P D cl (wd ad ct n) H) (hn : ∀ k, k < n → ¬ B (ad k)) (hk : ∀ q : Nat, q < H.size → ¬ B q → H1[q]? = H[q]?) : va_P D cl (wd ad ct n) H1 := by
  refine h.kept (fun k q hq => ?_)
  obtain ⟨h1, rfl⟩ := wd_inv hq
  exact hk _ (wd_Pk h h1).lt (hn k h1)
/-- all that the law has made lies apart -/
def AP (ad am : Nat → Nat) (o1 o2 sz : Nat) : Prop := (∀ k, k < 51 → sz ≤ ad k) ∧ (∀ k, k < 25 → sz ≤ am k) ∧ (sz ≤ o1 ∧ sz ≤ o2) ∧ (∀ k, k < 25 → ¬ aK ad 51 (am k)) ∧ (¬ aK ad 51 o1 ∧ ¬ aK ad 51 o2) ∧ (¬ aK am 25 o1 ∧ ¬ aK am 25 o2) ∧ o1 ≠ o2
theorem AP.m0 {ad am : Nat → Nat} {o1 o2 sz : Nat} (h : AP ad am o1 o2 sz) : ∀ k, k < 25 → ¬ aK ad 51 (am k) := h.2.2.2.1
theorem AP.m1 {ad am : Nat → Nat} {o1 o2 sz : Nat} (h : AP ad am o1 o2 sz) : ∀ k, k < 25 → ¬ aO ad o1 (am k) := fun k hk z => z.elim (h.m0 k hk) (fun e => h.2.2.2.2.2.1.1 ⟨k, hk, e.symm⟩)
theorem AP.m2 {ad am : Nat → Nat} {o1 o2 sz : Nat} (h : AP ad am o1 o2 sz) : ∀ k, k < 25 → ¬ aO ad o2 (am k) := fun k hk z => z.elim (h.m0 k hk) (fun e => h.2.2.2.2.2.1.2 ⟨k, hk, e.symm⟩)
theorem AP.c {ad am : Nat → Nat} {o1 o2 sz : Nat} (h : AP ad am o1 o2 sz) : ∀ k, k < 51 → ¬ aK am 25 (ad k) := fun k hk ⟨j, hj, e⟩ => h.m0 j hj ⟨k, hk, e.symm⟩
theorem AP.x1 {ad am : Nat → Nat} {o1 o2 sz : Nat} (h : AP ad am o1 o2 sz) : ¬ aO ad o1 o2 := fun z => z.elim h.2.2.2.2.1.2 (fun e => h.2.2.2.2.2.2 e.symm)
theorem AP.x2 {ad am : Nat → Nat} {o1 o2 sz : Nat} (h : AP ad am o1 o2 sz) : ¬ aO ad o2 o1 := fun z => z.elim h.2.2.2.2.1.1 h.2.2.2.2.2.2
theorem AP.Ac {ad am : Nat → Nat} {o1 o2 sz : Nat} (h : AP ad am o1 o2 sz) : ∀ q, aK ad 51 q → sz ≤ q := fun q ⟨k, hk, e⟩ => by rw [e]; exact h.1 k hk
theorem AP.A1 {ad am : Nat → Nat} {o1 o2 sz : Nat} (h : AP ad am o1 o2 sz) : ∀ q, aO ad o1 q → sz ≤ q := fun q z => z.elim (h.Ac q) (fun e => by rw [e]; exact h.2.2.1.1)
theorem AP.A2 {ad am : Nat → Nat} {o1 o2 sz : Nat} (h : AP ad am o1 o2 sz) : ∀ q, aO ad o2 q → sz ≤ q := fun q z => z.elim (h.Ac q) (fun e => by rw [e]; exact h.2.2.1.2)
theorem AP.Am {ad am : Nat → Nat} {o1 o2 sz : Nat} (h : AP ad am o1 o2 sz) : ∀ q, aK am 25 q → sz ≤ q := fun q ⟨k, hk, e⟩ => by rw [e]; exact h.2.1 k hk
def lp_law (L : Nat) (xs : Nat → Int32) : Nat → Int32 → CS → CS → (Nat → Int64) → (Nat → UInt64) → Prop
  | 0 => fun _ _ _ _ _ => False
  | k + 1 => fun i σ τ f g => ((((Int32.ofNat L) - 5) < i → True) ∧ (¬ ((Int32.ofNat L) - 5) < i → (vp_in i L ∧ ((((xs (i.toNatClampNeg)) &&& 15) = 0 → (vp_in (i + 1) L ∧ (vp_in (i + 2) L ∧ (vp_in (i + 3) L ∧ (vp_in (i + 4) L ∧ (wp_LW_make (xs ((i + 1).toNatClampNeg)) (xs ((i + 2).toNatClampNeg)) (xs ((i + 3).toNatClampNeg)) (xs ((i + 4).toNatClampNeg)) σ f (fun r3 s4 f5 => (vp_in (i + 1) L ∧ (vp_in (i + 2) L ∧ (vp_in (i + 3) L ∧ (vp_in (i + 4) L ∧ (wp_MO_make (xs ((i + 1).toNatClampNeg)) (xs ((i + 2).toNatClampNeg)) (xs ((i + 3).toNatClampNeg)) (xs ((i + 4).toNatClampNeg)) τ (fun r6 s7 => (wp_MO_thrown  s7 (fun r8 s9 => ((r8 = r3 → ((r3 = 0 → (((lg_cmp (f5 0) r6.toInt64) = 0 → lp_law L xs k (i + 5) s4 s9 f5 g) ∧ (¬ (lg_cmp (f5 0) r6.toInt64) = 0 → False))) ∧ (¬ r3 = 0 → lp_law L xs k (i + 5) s4 s9 f5 g))) ∧ (¬ r8 = r3 → False))))))))))))))))) ∧ (¬ ((xs (i.toNatClampNeg)) &&& 15) = 0 → ((((xs (i.toNatClampNeg)) &&& 15) = 1 → (vp_in (i + 1) L ∧ (vp_in (i + 2) L ∧ (vp_in (i + 3) L ∧ (vp_in (i + 4) L ∧ (wp_LW_procedure (xs ((i + 1).toNatClampNeg)) (xs ((i + 2).toNatClampNeg)) (xs ((i + 3).toNatClampNeg)) (xs ((i + 4).toNatClampNeg)) σ (fun r14 s15 => (vp_in (i + 1) L ∧ (vp_in (i + 2) L ∧ (vp_in (i + 3) L ∧ (vp_in (i + 4) L ∧ (wp_MO_procedure (xs ((i + 1).toNatClampNeg)) (xs ((i + 2).toNatClampNeg)) (xs ((i + 3).toNatClampNeg)) (xs ((i + 4).toNatClampNeg)) τ (fun s17 => (wp_MO_thrown  s17 (fun r18 s19 => ((r18 = r14 → lp_law L xs k (i + 5) s15 s19 f g) ∧ (¬ r18 = r14 → False))))))))))))))))) ∧ (¬ ((xs (i.toNatClampNeg)) &&& 15) = 1 → ((((xs (i.toNatClampNeg)) &&& 15) = 2 → (vp_in (i + 1) L ∧ (vp_in (i + 2) L ∧ (vp_in (i + 3) L ∧ (vp_in (i + 4) L ∧ (wp_LW_bounds (xs ((i + 1).toNatClampNeg)) (xs ((i + 2).toNatClampNeg)) (xs ((i + 3).toNatClampNeg)) (xs ((i + 4).toNatClampNeg)) σ f (fun r22 s23 f24 => (vp_in (i + 1) L ∧ (vp_in (i + 2) L ∧ (vp_in (i + 3) L ∧ (vp_in (i + 4) L ∧ (wp_MO_bounds (xs ((i + 1).toNatClampNeg)) (xs ((i + 2).toNatClampNeg)) (xs ((i + 3).toNatClampNeg)) (xs ((i + 4).toNatClampNeg)) τ (fun r25 s26 => (wp_MO_thrown  s26 (fun r27 s28 => ((r27 = r22 → ((r22 = 0 → (((lg_cmp (f24 0) r25.toInt64) = 0 → lp_law L xs k (i + 5) s23 s28 f24 g) ∧ (¬ (lg_cmp (f24 0) r25.toInt64) = 0 → False))) ∧ (¬ r22 = 0 → lp_law L xs k (i + 5) s23 s28 f24 g))) ∧ (¬ r27 = r22 → False))))))))))))))))) ∧ (¬ ((xs (i.toNatClampNeg)) &&& 15) = 2 → ((((xs (i.toNatClampNeg)) &&& 15) = 3 → (vp_in (i + 1) L ∧ (vp_in (i + 2) L ∧ (vf_n64 (FP.dmul (FP.i2d (xs ((i + 2).toNatClampNeg))) 4593671619917905920) ∧ (wp_LW_put (xs ((i + 1).toNatClampNeg)) (FP.dmul (FP.i2d (xs ((i + 2).toNatClampNeg))) 4593671619917905920) σ g (fun r33 s34 f35 => (vp_in (i + 1) L ∧ (vp_in (i + 2) L ∧ (vf_n64 (FP.dmul (FP.i2d (xs ((i + 2).toNatClampNeg))) 4593671619917905920) ∧ (wp_MO_put (xs ((i + 1).toNatClampNeg)) (FP.dmul (FP.i2d (xs ((i + 2).toNatClampNeg))) 4593671619917905920) τ (fun r36 s37 => (wp_MO_thrown  s37 (fun r38 s39 => ((r38 = r33 → ((r33 = 0 → (((Op.cmpValue (FP.dcmp (f35 0) r36) .l) = 0 → lp_law L xs k (i + 5) s34 s39 f f35) ∧ (¬ (Op.cmpValue (FP.dcmp (f35 0) r36) .l) = 0 → (((Op.cmpValue (FP.dcmp (f35 0) (f35 0)) .l) = 0 → False) ∧ (¬ (Op.cmpValue (FP.dcmp (f35 0) (f35 0)) .l) = 0 → (((Op.cmpValue (FP.dcmp r36 r36) .l) = 0 → False) ∧ (¬ (Op.cmpValue (FP.dcmp r36 r36) .l) = 0 → lp_law L xs k (i + 5) s34 s39 f f35))))))) ∧ (¬ r33 = 0 → lp_law L xs k (i + 5) s34 s39 f f35))) ∧ (¬ r38 = r33 → False))))))))))))))) ∧ (¬ ((xs (i.toNatClampNeg)) &&& 15) = 3 → ((((xs (i.toNatClampNeg)) &&& 15) = 4 → (vp_in (i + 1) L ∧ (wp_LW_work (xs ((i + 1).toNatClampNeg)) σ g (fun r46 s47 f48 => (vp_in (i + 1) L ∧ (wp_MO_work (xs ((i + 1).toNatClampNeg)) τ (fun r49 s50 => (wp_MO_thrown  s50 (fun r51 s52 => ((r51 = r46 → ((r46 = 0 → (((Op.cmpValue (FP.dcmp (f48 0) r49) .l) = 0 → lp_law L xs k (i + 5) s47 s52 f f48) ∧ (¬ (Op.cmpValue (FP.dcmp (f48 0) r49) .l) = 0 → (((Op.cmpValue (FP.dcmp (f48 0) (f48 0)) .l) = 0 → False) ∧ (¬ (Op.cmpValue (FP.dcmp (f48 0) (f48 0)) .l) = 0 → (((Op.cmpValue (FP.dcmp r49 r49) .l) = 0 → False) ∧ (¬ (Op.cmpValue (FP.dcmp r49 r49) .l) = 0 → lp_law L xs k (i + 5) s47 s52 f f48))))))) ∧ (¬ r46 = 0 → lp_law L xs k (i + 5) s47 s52 f f48))) ∧ (¬ r51 = r46 → False))))))))))) ∧ (¬ ((xs (i.toNatClampNeg)) &&& 15) = 4 → ((((xs (i.toNatClampNeg)) &&& 15) = 5 → (vp_in (i + 1) L ∧ (wp_LW_variable (xs ((i + 1).toNatClampNeg)) σ g (fun r59 s60 f61 => (vp_in (i + 1) L ∧ (wp_MO_variable (xs ((i + 1).toNatClampNeg)) τ (fun r62 s63 => (wp_MO_thrown  s63 (fun r64 s65 => ((r64 = r59 → ((r59 = 0 → (((Op.cmpValue (FP.dcmp (f61 0) r62) .l) = 0 → lp_law L xs k (i + 5) s60 s65 f f61) ∧ (¬ (Op.cmpValue (FP.dcmp (f61 0) r62) .l) = 0 → (((Op.cmpValue (FP.dcmp (f61 0) (f61 0)) .l) = 0 → False) ∧ (¬ (Op.cmpValue (FP.dcmp (f61 0) (f61 0)) .l) = 0 → (((Op.cmpValue (FP.dcmp r62 r62) .l) = 0 → False) ∧ (¬ (Op.cmpValue (FP.dcmp r62 r62) .l) = 0 → lp_law L xs k (i + 5) s60 s65 f f61))))))) ∧ (¬ r59 = 0 → lp_law L xs k (i + 5) s60 s65 f f61))) ∧ (¬ r64 = r59 → False))))))))))) ∧ (¬ ((xs (i.toNatClampNeg)) &&& 15) = 5 → ((((xs (i.toNatClampNeg)) &&& 15) = 6 → (vp_in (i + 1) L ∧ (vp_in (i + 2) L ∧ (wp_LW_element (xs ((i + 1).toNatClampNeg)) (xs ((i + 2).toNatClampNeg)) σ g (fun r72 s73 f74 => (vp_in (i + 1) L ∧ (vp_in (i + 2) L ∧ (wp_MO_element (xs ((i + 1).toNatClampNeg)) (xs ((i + 2).toNatClampNeg)) τ (fun r75 s76 => (wp_MO_thrown  s76 (fun r77 s78 => ((r77 = r72 → ((r72 = 0 → (((Op.cmpValue (FP.dcmp (f74 0) r75) .l) = 0 → lp_law L xs k (i + 5) s73 s78 f f74) ∧ (¬ (Op.cmpValue (FP.dcmp (f74 0) r75) .l) = 0 → (((Op.cmpValue (FP.dcmp (f74 0) (f74 0)) .l) = 0 → False) ∧ (¬ (Op.cmpValue (FP.dcmp (f74 0) (f74 0)) .l) = 0 → (((Op.cmpValue (FP.dcmp r75 r75) .l) = 0 → False) ∧ (¬ (Op.cmpValue (FP.dcmp r75 r75) .l) = 0 → lp_law L xs k (i + 5) s73 s78 f f74))))))) ∧ (¬ r72 = 0 → lp_law L xs k (i + 5) s73 s78 f f74))) ∧ (¬ r77 = r72 → False))))))))))))) ∧ (¬ ((xs (i.toNatClampNeg)) &&& 15) = 6 → ((((xs (i.toNatClampNeg)) &&& 15) = 7 → (vp_in (i + 1) L ∧ (vp_in (i + 2) L ∧ (wp_LW_node (xs ((i + 1).toNatClampNeg)) (xs ((i + 2).toNatClampNeg)) σ f (fun r85 s86 f87 => (vp_in (i + 1) L ∧ (vp_in (i + 2) L ∧ (wp_MO_node (xs ((i + 1).toNatClampNeg)) (xs ((i + 2).toNatClampNeg)) τ (fun r88 s89 => (wp_MO_thrown  s89 (fun r90 s91 => ((r90 = r85 → ((r85 = 0 → (((lg_cmp (f87 0) r88.toInt64) = 0 → lp_law L xs k (i + 5) s86 s91 f87 g) ∧ (¬ (lg_cmp (f87 0) r88.toInt64) = 0 → False))) ∧ (¬ r85 = 0 → lp_law L xs k (i + 5) s86 s91 f87 g))) ∧ (¬ r90 = r85 → False))))))))))))) ∧ (¬ ((xs (i.toNatClampNeg)) &&& 15) = 7 → ((((xs (i.toNatClampNeg)) &&& 15) = 8 → (wp_NF_clear  σ (fun r96 s97 => (wp_MO_clear  τ (fun r98 s99 => ((r96 = r98 → lp_law L xs k (i + 5) s97 s99 f g) ∧ (¬ r96 = r98 → False))))))) ∧ (¬ ((xs (i.toNatClampNeg)) &&& 15) = 8 → ((((xs (i.toNatClampNeg)) &&& 15) = 9 → (vp_in (i + 1) L ∧ (wp_LW_count (xs ((i + 1).toNatClampNeg)) σ f (fun r102 s103 f104 => (vp_in (i + 1) L ∧ (wp_MO_count (xs ((i + 1).toNatClampNeg)) τ (fun r105 s106 => (wp_MO_thrown  s106 (fun r107 s108 => ((r107 = r102 → ((r102 = 0 → (((lg_cmp (f104 0) r105.toInt64) = 0 → lp_law L xs k (i + 5) s103 s108 f104 g) ∧ (¬ (lg_cmp (f104 0) r105.toInt64) = 0 → False))) ∧ (¬ r102 = 0 → lp_law L xs k (i + 5) s103 s108 f104 g))) ∧ (¬ r107 = r102 → False))))))))))) ∧ (¬ ((xs (i.toNatClampNeg)) &&& 15) = 9 → lp_law L xs k (i + 5) σ τ f g)))))))))))))))))))))))
set_option maxHeartbeats 8000000 in
set_option maxRecDepth 100000 in
theorem law_loop {p : Program} {e : Env} {s : State} {m : MethodId} {below : List Frame} {meth : Method} {c : Code} {l : Launch} (hst : l.stackTraces = false) {b L : Nat} {xs : Nat → Int32} {D : va_G} {cs : CI} {cL : ClassId} {ad am : Nat → Nat} {o1 o2 : Nat} (hi : aI ad 51) (him : aI am 25) (hAP : AP ad am o1 o2 s.heap.size) (hx : p.tables.exec = Jvm.exec) (hb : c.code = b_LW_law) (hr : meth.sig.returnType = ret) (hml : c.maxLocals = 9) (hown : s.vm.findClass R_LW = some m.cls) {c0 : Cond} (htC : ∀ w ∈ c0 :: wC, w.before #[Value.ref b] s = true) (hX : va_X b L xs s s.heap) (hbl : b < s.heap.size) (hlocks : meth.locks = false) (hKL : va_K D clA (tyL cs cL) s) (hN : NW s) (hXW : XW (fun q => s.heap.size ≤ q) s) (hNC : NC s) (k : Nat) : ∀ (i : Int32) (σ τ : CS) (f : Nat → Int64) (g : Nat → UInt64) (H : Heap) (locs : List Loc) (cells slots : Nat) (ls : Array Slot), cells + k ≤ 600002 → slots + 6 * k ≤ 7302232 → lp_law L xs k i σ τ f g → va_P D clA (wd ad (cont ad cs σ) 51) H → va_P D clA (wd am (contM am cs τ) 25) H → va_P D clA [(o1, .inl (cL, 1, .inr (.inl f)))] H → va_P D clA [(o2, .inl (cs.2.1, 1, .inr (.inr (.inr (.inl g)))))] H → va_S (fun q => s.heap.size ≤ q) s.heap H locs → lv_has ls 9 [(0, .ref b), (1, .ref (ad 0)), (2, .ref (am 0)), (3, .ref o1), (4, .ref o2), (5, .int i)] → W p l e room_1 s m #[Value.ref b] below meth c H locs cells slots (lw_Z below #[Value.ref b] s) (F0 m 28 ls []) := by
  have hbA : ¬ (fun q : Nat => s.heap.size ≤ q) b := Nat.not_le.mpr hbl
  have hK := hKL.sub (tys' := tyC cs) [0, 1, 2] rfl
  have ht : ∀ w ∈ wC, w.before _ s = true := fun w h => htC w (List.mem_cons_of_mem _ h)
  induction k with
  | zero => intro i σ τ f g H locs cells slots ls _ _ hq; exact hq.elim
  | succ k ih =>
    intro i σ τ f g H locs cells slots ls hc hsl hq hP hM hO hG hS hl
    unfold lp_law at hq
    refine lv_iload hx hb d_LW_law_28 (lv_at hl 5 rfl) ?_
    refine lv_aload_n hx hb d_LW_law_30 rfl (lv_at hl 0 rfl) ?_
    refine va_slen hx hb hX hbl hbA hS d_LW_law_31 ?_
    refine lv_iconst (v := 5) hx hb d_LW_law_32 (by decide) ?_
    refine lv_isub hx hb d_LW_law_33 ?_
    refine lv_icmp_gt (tgt := 841) hx hb d_LW_law_34 (by decide) (fun c1 => ?_) (fun c1 => ?_)
    · have hq := hq.1 c1
      refine lv_iconst (v := 1) hx hb d_LW_law_841 (by decide) ?_
      refine va_forget (fun q h => hS.2.2 q h) ?_
      refine W.widen (k := 600002) (n := 7302232) (by omega) (by omega) ?_
      exact lw_ret hx hb hr hlocks d_LW_law_842
    · have hq := hq.2 c1
      refine lv_aload_n hx hb d_LW_law_37 rfl (lv_at hl 0 rfl) ?_
      refine lv_iload hx hb d_LW_law_38 (lv_at hl 5 rfl) ?_
      refine va_sld hx hb hX hbl hbA hS hq.1 d_LW_law_40 ?_
      have hq := hq.2
      refine lv_bipush (v := 15) hx hb d_LW_law_41 (by decide) ?_
      refine lv_iand hx hb d_LW_law_43 ?_
      by_cases c2 : ((xs (i.toNatClampNeg)) &&& 15) = 0
      · have hq := hq.1 c2
        refine lv_tableIn (tgt := 100) hx hb d_LW_law_44 (by rw [c2]; decide) (by rw [c2]; decide) (by rw [c2]; rfl) (by decide) ?_
        refine lv_aload_n hx hb d_LW_law_100 rfl (lv_at hl 1 rfl) ?_
        refine lv_aload_n hx hb d_LW_law_101 rfl (lv_at hl 0 rfl) ?_
        refine lv_iload hx hb d_LW_law_102 (lv_at hl 5 rfl) ?_
        refine lv_iconst (v := 1) hx hb d_LW_law_104 (by decide) ?_
        refine lv_iadd hx hb d_LW_law_105 ?_
        refine va_sld hx hb hX hbl hbA hS hq.1 d_LW_law_106 ?_
        have hq := hq.2
        refine lv_aload_n hx hb d_LW_law_107 rfl (lv_at hl 0 rfl) ?_
        refine lv_iload hx hb d_LW_law_108 (lv_at hl 5 rfl) ?_
        refine lv_iconst (v := 2) hx hb d_LW_law_110 (by decide) ?_
        refine lv_iadd hx hb d_LW_law_111 ?_
        refine va_sld hx hb hX hbl hbA hS hq.1 d_LW_law_112 ?_
        have hq := hq.2
        refine lv_aload_n hx hb d_LW_law_113 rfl (lv_at hl 0 rfl) ?_
        refine lv_iload hx hb d_LW_law_114 (lv_at hl 5 rfl) ?_
        refine lv_iconst (v := 3) hx hb d_LW_law_116 (by decide) ?_
        refine lv_iadd hx hb d_LW_law_117 ?_
        refine va_sld hx hb hX hbl hbA hS hq.1 d_LW_law_118 ?_
        have hq := hq.2
        refine lv_aload_n hx hb d_LW_law_119 rfl (lv_at hl 0 rfl) ?_
        refine lv_iload hx hb d_LW_law_120 (lv_at hl 5 rfl) ?_
        refine lv_iconst (v := 4) hx hb d_LW_law_122 (by decide) ?_
        refine lv_iadd hx hb d_LW_law_123 ?_
        refine va_sld hx hb hX hbl hbA hS hq.1 d_LW_law_124 ?_
        have hq := hq.2
        refine lv_aload_n hx hb d_LW_law_125 rfl (lv_at hl 3 rfl) ?_
        refine va_calli (vx_runSW (As := [.ref (ad 0), .int (xs ((i + 1).toNatClampNeg)), .int (xs ((i + 2).toNatClampNeg)), .int (xs ((i + 3).toNatClampNeg)), .int (xs ((i + 4).toNatClampNeg)), .ref o1]) (rest := []) ⟨hx, hb, hml, hown, htC⟩ (c_LW_make hst (D := D) (cs := cs) (cL := cL) hi hAP.2.2.2.2.1.1 hq) (vx_cwSW 6 htC (good_S wC_245 wC_246 wC_43 wC_247) rfl rfl rfl (by decide +kernel) ⟨(show 7 + 1 ≤ 2048 by decide), (show 8 + (7 + 11) + 114 ≤ 84000 by decide)⟩) ⟨hPre_blind, fun U hU hW => ⟨rfl, by rw [hU]; exact hP.app hO, va_K.moved hW.alike hKL, hN.warm hW, (hXW.to hS hU hW).narrow hAP.A1, hNC.moved hW.alike⟩⟩ rfl rfl hl.1 rfl (lv_room (Nat.le_of_ble_eq_true rfl)) d_LW_law_126 ⟨(show _ + 1 ≤ 600002 by omega), (show _ + 6 ≤ 7302232 by omega)⟩) hS (fun q _ h => hAP.A1 q h) hAP.A1 (fun r3 u t H locs ht0 hvm hq hB hz1 hk1 hS => ?_)
        obtain ⟨s4, f5⟩ := u
        have hB : va_P D clA _ t.heap := hB
        rw [ht0] at hB
        have hM := wd_kept hM hAP.m1 hk1
        have hG := keep_o hG hAP.x1 hk1
        have hO := app_r hB
        have hP := app_l hB
        refine lv_istore (lv' := [(6, .int r3), (0, .ref b), (1, .ref (ad 0)), (2, .ref (am 0)), (3, .ref o1), (4, .ref o2), (5, .int i)]) hx hb d_LW_law_129 hl (by decide) rfl (fun ls hl => ?_)
        refine lv_aload_n hx hb d_LW_law_131 rfl (lv_at hl 3 rfl) ?_
        refine lv_aload_n hx hb d_LW_law_132 rfl (lv_at hl 1 rfl) ?_
        refine lv_iload hx hb d_LW_law_133 (lv_at hl 6 rfl) ?_
        refine lv_iconst (v := 1) hx hb d_LW_law_135 (by decide) ?_
        refine lv_iadd hx hb d_LW_law_136 ?_
        refine va_sld hx hb hX hbl hbA hS hq.1 d_LW_law_137 ?_
        have hq := hq.2
        refine lv_aload_n hx hb d_LW_law_138 rfl (lv_at hl 1 rfl) ?_
        refine lv_iload hx hb d_LW_law_139 (lv_at hl 6 rfl) ?_
        refine lv_iconst (v := 2) hx hb d_LW_law_141 (by decide) ?_
        refine lv_iadd hx hb d_LW_law_142 ?_
        refine va_sld hx hb hX hbl hbA hS hq.1 d_LW_law_143 ?_
        have hq := hq.2
        refine lv_aload_n hx hb d_LW_law_144 rfl (lv_at hl 1 rfl) ?_
        refine lv_iload hx hb d_LW_law_145 (lv_at hl 6 rfl) ?_
        refine lv_iconst (v := 3) hx hb d_LW_law_147 (by decide) ?_
        refine lv_iadd hx hb d_LW_law_148 ?_
        refine va_sld hx hb hX hbl hbA hS hq.1 d_LW_law_149 ?_
        have hq := hq.2
        refine lv_aload_n hx hb d_LW_law_150 rfl (lv_at hl 1 rfl) ?_
        refine lv_iload hx hb d_LW_law_151 (lv_at hl 6 rfl) ?_
        refine lv_iconst (v := 4) hx hb d_LW_law_153 (by decide) ?_
        refine lv_iadd hx hb d_LW_law_154 ?_
        refine va_sld hx hb hX hbl hbA hS hq.1 d_LW_law_155 ?_
        have hq := hq.2
        refine va_calli (va_runV (As := [.int (xs ((i + 1).toNatClampNeg)), .int (xs ((i + 2).toNatClampNeg)), .int (xs ((i + 3).toNatClampNeg)), .int (xs ((i + 4).toNatClampNeg))]) (rest := []) ⟨hx, hb, hml, hown, htC⟩ (c_MO_make (D := D) (cs := cs) him hq) (cwV 4 htC (good_V wC_804 wC_805 wC_806 wC_50 wC_807) rfl rfl rfl (by decide +kernel) ⟨(show 3 + 1 ≤ 2048 by decide), (show 8 + (7 + 11) + 67 ≤ 84000 by decide)⟩) ⟨mP_blind, va_recv hK hM (ci := 5) (q0 := 0) rfl (wd_at (by decide) rfl), fun U hU hW => ⟨rfl, by rw [hU]; exact hM, va_K.moved hW.alike hK, hN.warm hW⟩⟩ rfl rfl hl.1 rfl (lv_room (Nat.le_of_ble_eq_true rfl)) d_LW_law_156 ⟨(show _ + 0 ≤ 600002 by omega), (show _ + 0 ≤ 7302232 by omega)⟩) hS (fun q _ h => hAP.Am q h) hAP.Am (fun r6 s7 t H locs ht0 hvm hq hB hz1 hk1 hS => ?_)
        obtain ⟨hM, -, -⟩ := hB
        rw [ht0] at hM
        have hP := wd_kept hP hAP.c hk1
        have hO := keep_o hO hAP.2.2.2.2.2.1.1 hk1
        have hG := keep_o hG hAP.2.2.2.2.2.1.2 hk1
        refine lv_istore (lv' := [(7, .int r6), (6, .int r3), (0, .ref b), (1, .ref (ad 0)), (2, .ref (am 0)), (3, .ref o1), (4, .ref o2), (5, .int i)]) hx hb d_LW_law_159 hl (by decide) rfl (fun ls hl => ?_)
        refine lv_aload_n hx hb d_LW_law_161 rfl (lv_at hl 4 rfl) ?_
        refine va_calli (va_runV (As := []) (rest := []) ⟨hx, hb, hml, hown, htC⟩ (c_MO_thrown (D := D) (cs := cs) him hq) (cwV 0 htC (good_V wC_800 wC_801 wC_802 wC_50 wC_803) rfl rfl rfl (by decide +kernel) ⟨(show 0 + 1 ≤ 2048 by decide), (show 8 + (1 + 11) + 0 ≤ 84000 by decide)⟩) ⟨mP_blind, va_recv hK hM (ci := 5) (q0 := 0) rfl (wd_at (by decide) rfl), fun U hU hW => ⟨rfl, by rw [hU]; exact hM, va_K.moved hW.alike hK, hN.warm hW⟩⟩ rfl rfl hl.1 rfl (lv_room (Nat.le_of_ble_eq_true rfl)) d_LW_law_162 ⟨(show _ + 0 ≤ 600002 by omega), (show _ + 0 ≤ 7302232 by omega)⟩) hS (fun q _ h => hAP.Am q h) hAP.Am (fun r8 s9 t H locs ht0 hvm hq hB hz1 hk1 hS => ?_)
        obtain ⟨hM, -, -⟩ := hB
        rw [ht0] at hM
        have hP := wd_kept hP hAP.c hk1
        have hO := keep_o hO hAP.2.2.2.2.2.1.1 hk1
        have hG := keep_o hG hAP.2.2.2.2.2.1.2 hk1
        refine lv_iload hx hb d_LW_law_165 (lv_at hl 1 rfl) ?_
        refine lv_icmp_eq (tgt := 172) hx hb d_LW_law_167 (by decide) (fun c10 => ?_) (fun c10 => ?_)
        · have hq := hq.1 c10
          refine lv_iload hx hb d_LW_law_172 (lv_at hl 1 rfl) ?_
          refine lv_if_ne (tgt := 189) hx hb d_LW_law_174 (by decide) (fun c11 => ?_) (fun c11 => ?_)
          · have hq := hq.2 c11
            refine lv_goto (tgt := 835) hx hb d_LW_law_189 (by decide) ?_
            refine lv_iinc (v := i + 5) (lv' := [(5, .int (i + 5)), (7, .int r6), (6, .int r3), (0, .ref b), (1, .ref (ad 0)), (2, .ref (am 0)), (3, .ref o1), (4, .ref o2)]) hx hb d_LW_law_835 hl (k := 7) rfl rfl (by decide) rfl (fun ls hl => ?_)
            refine lv_goto (tgt := 28) hx hb d_LW_law_838 (by decide) ?_
            exact ih (i + 5) s4 s9 f5 g _ _ _ _ ls (by omega) (by omega) hq hP hM hO hG hS (lv_sub hl [3, 4, 5, 6, 7, 0] rfl)
          · have hq := hq.1 c11
            refine lv_aload_n hx hb d_LW_law_177 rfl (lv_at hl 5 rfl) ?_
            refine lv_iconst (v := 0) hx hb d_LW_law_178 (by decide) ?_
            refine va_lald hx hb hKL hO 0 3 rfl rfl (show vp_in _ _ by unfold vp_in; decide) d_LW_law_179 ?_
            refine lv_iload hx hb d_LW_law_180 (lv_at hl 0 rfl) ?_
            refine lv_i2l hx hb d_LW_law_182 rfl ?_
            refine W.lcmp hx hb d_LW_law_183 ?_
            refine lv_if_eq (tgt := 189) hx hb d_LW_law_184 (by decide) (fun c12 => ?_) (fun c12 => ?_)
            · have hq := hq.1 c12
              refine lv_goto (tgt := 835) hx hb d_LW_law_189 (by decide) ?_
              refine lv_iinc (v := i + 5) (lv' := [(5, .int (i + 5)), (7, .int r6), (6, .int r3), (0, .ref b), (1, .ref (ad 0)), (2, .ref (am 0)), (3, .ref o1), (4, .ref o2)]) hx hb d_LW_law_835 hl (k := 7) rfl rfl (by decide) rfl (fun ls hl => ?_)
              refine lv_goto (tgt := 28) hx hb d_LW_law_838 (by decide) ?_
              exact ih (i + 5) s4 s9 f5 g _ _ _ _ ls (by omega) (by omega) hq hP hM hO hG hS (lv_sub hl [3, 4, 5, 6, 7, 0] rfl)
            · have hq := hq.2 c12
              refine lv_iconst (v := 0) hx hb d_LW_law_187 (by decide) ?_
              exact hq.elim
        · have hq := hq.2 c10
          refine lv_iconst (v := 0) hx hb d_LW_law_170 (by decide) ?_
          exact hq.elim
      have hq := hq.2 c2
      by_cases c13 : ((xs (i.toNatClampNeg)) &&& 15) = 1
      · have hq := hq.1 c13
        refine lv_tableIn (tgt := 192) hx hb d_LW_law_44 (by rw [c13]; decide) (by rw [c13]; decide) (by rw [c13]; rfl) (by decide) ?_
        refine lv_aload_n hx hb d_LW_law_192 rfl (lv_at hl 1 rfl) ?_
        refine lv_aload_n hx hb d_LW_law_193 rfl (lv_at hl 0 rfl) ?_
        refine lv_iload hx hb d_LW_law_194 (lv_at hl 5 rfl) ?_
        refine lv_iconst (v := 1) hx hb d_LW_law_196 (by decide) ?_
        refine lv_iadd hx hb d_LW_law_197 ?_
        refine va_sld hx hb hX hbl hbA hS hq.1 d_LW_law_198 ?_
        have hq := hq.2
        refine lv_aload_n hx hb d_LW_law_199 rfl (lv_at hl 0 rfl) ?_
        refine lv_iload hx hb d_LW_law_200 (lv_at hl 5 rfl) ?_
        refine lv_iconst (v := 2) hx hb d_LW_law_202 (by decide) ?_
        refine lv_iadd hx hb d_LW_law_203 ?_
        refine va_sld hx hb hX hbl hbA hS hq.1 d_LW_law_204 ?_
        have hq := hq.2
        refine lv_aload_n hx hb d_LW_law_205 rfl (lv_at hl 0 rfl) ?_
        refine lv_iload hx hb d_LW_law_206 (lv_at hl 5 rfl) ?_
        refine lv_iconst (v := 3) hx hb d_LW_law_208 (by decide) ?_
        refine lv_iadd hx hb d_LW_law_209 ?_
        refine va_sld hx hb hX hbl hbA hS hq.1 d_LW_law_210 ?_
        have hq := hq.2
        refine lv_aload_n hx hb d_LW_law_211 rfl (lv_at hl 0 rfl) ?_
        refine lv_iload hx hb d_LW_law_212 (lv_at hl 5 rfl) ?_
        refine lv_iconst (v := 4) hx hb d_LW_law_214 (by decide) ?_
        refine lv_iadd hx hb d_LW_law_215 ?_
        refine va_sld hx hb hX hbl hbA hS hq.1 d_LW_law_216 ?_
        have hq := hq.2
        refine va_calli (vx_runSW (As := [.ref (ad 0), .int (xs ((i + 1).toNatClampNeg)), .int (xs ((i + 2).toNatClampNeg)), .int (xs ((i + 3).toNatClampNeg)), .int (xs ((i + 4).toNatClampNeg))]) (rest := []) ⟨hx, hb, hml, hown, htC⟩ (c_LW_procedure hst (D := D) (cs := cs) (cL := cL) hi hq) (vx_cwSW 5 htC (good_S wC_366 wC_367 wC_43 wC_368) rfl rfl rfl (by decide +kernel) ⟨(show 7 + 1 ≤ 2048 by decide), (show 8 + (6 + 11) + 114 ≤ 84000 by decide)⟩) ⟨hPre_blind, fun U hU hW => ⟨rfl, by rw [hU]; exact hP, va_K.moved hW.alike hKL, hN.warm hW, (hXW.to hS hU hW).narrow hAP.Ac, hNC.moved hW.alike⟩⟩ rfl rfl hl.1 rfl (lv_room (Nat.le_of_ble_eq_true rfl)) d_LW_law_217 ⟨(show _ + 1 ≤ 600002 by omega), (show _ + 6 ≤ 7302232 by omega)⟩) hS (fun q _ h => hAP.Ac q h) hAP.Ac (fun r14 u t H locs ht0 hvm hq hB hz1 hk1 hS => ?_)
        obtain ⟨s15, hu9⟩ : ∃ z, z = u := ⟨_, rfl⟩
        rw [← hu9] at hB hq
        have hB : va_P D clA _ t.heap := hB
        rw [ht0] at hB
        have hM := wd_kept hM hAP.m0 hk1
        have hO := keep_o hO hAP.2.2.2.2.1.1 hk1
        have hG := keep_o hG hAP.2.2.2.2.1.2 hk1
        have hP := hB
        refine lv_istore (lv' := [(6, .int r14), (0, .ref b), (1, .ref (ad 0)), (2, .ref (am 0)), (3, .ref o1), (4, .ref o2), (5, .int i)]) hx hb d_LW_law_220 hl (by decide) rfl (fun ls hl => ?_)
        refine lv_aload_n hx hb d_LW_law_222 rfl (lv_at hl 3 rfl) ?_
        refine lv_aload_n hx hb d_LW_law_223 rfl (lv_at hl 1 rfl) ?_
        refine lv_iload hx hb d_LW_law_224 (lv_at hl 6 rfl) ?_
        refine lv_iconst (v := 1) hx hb d_LW_law_226 (by decide) ?_
        refine lv_iadd hx hb d_LW_law_227 ?_
        refine va_sld hx hb hX hbl hbA hS hq.1 d_LW_law_228 ?_
        have hq := hq.2
        refine lv_aload_n hx hb d_LW_law_229 rfl (lv_at hl 1 rfl) ?_
        refine lv_iload hx hb d_LW_law_230 (lv_at hl 6 rfl) ?_
        refine lv_iconst (v := 2) hx hb d_LW_law_232 (by decide) ?_
        refine lv_iadd hx hb d_LW_law_233 ?_
        refine va_sld hx hb hX hbl hbA hS hq.1 d_LW_law_234 ?_
        have hq := hq.2
        refine lv_aload_n hx hb d_LW_law_235 rfl (lv_at hl 1 rfl) ?_
        refine lv_iload hx hb d_LW_law_236 (lv_at hl 6 rfl) ?_
        refine lv_iconst (v := 3) hx hb d_LW_law_238 (by decide) ?_
        refine lv_iadd hx hb d_LW_law_239 ?_
        refine va_sld hx hb hX hbl hbA hS hq.1 d_LW_law_240 ?_
        have hq := hq.2
        refine lv_aload_n hx hb d_LW_law_241 rfl (lv_at hl 1 rfl) ?_
        refine lv_iload hx hb d_LW_law_242 (lv_at hl 6 rfl) ?_
        refine lv_iconst (v := 4) hx hb d_LW_law_244 (by decide) ?_
        refine lv_iadd hx hb d_LW_law_245 ?_
        refine va_sld hx hb hX hbl hbA hS hq.1 d_LW_law_246 ?_
        have hq := hq.2
        refine va_callv (va_runV (As := [.int (xs ((i + 1).toNatClampNeg)), .int (xs ((i + 2).toNatClampNeg)), .int (xs ((i + 3).toNatClampNeg)), .int (xs ((i + 4).toNatClampNeg))]) (rest := []) ⟨hx, hb, hml, hown, htC⟩ (c_MO_procedure (D := D) (cs := cs) him hq) (cwV 4 htC (good_V wC_823 wC_824 wC_825 wC_50 wC_826) rfl rfl rfl (by decide +kernel) ⟨(show 2 + 1 ≤ 2048 by decide), (show 8 + (5 + 11) + 43 ≤ 84000 by decide)⟩) ⟨mP_blind, va_recv hK hM (ci := 5) (q0 := 0) rfl (wd_at (by decide) rfl), fun U hU hW => ⟨rfl, by rw [hU]; exact hM, va_K.moved hW.alike hK, hN.warm hW⟩⟩ rfl rfl hl.1 rfl (lv_room (Nat.le_of_ble_eq_true rfl)) d_LW_law_247 ⟨(show _ + 0 ≤ 600002 by omega), (show _ + 0 ≤ 7302232 by omega)⟩) hS (fun q _ h => hAP.Am q h) hAP.Am (fun s17 t H locs ht0 hvm hq hB hz1 hk1 hS => ?_)
        obtain ⟨hM, -, -⟩ := hB
        rw [ht0] at hM
        have hP := wd_kept hP hAP.c hk1
        have hO := keep_o hO hAP.2.2.2.2.2.1.1 hk1
        have hG := keep_o hG hAP.2.2.2.2.2.1.2 hk1
        refine lv_aload_n hx hb d_LW_law_250 rfl (lv_at hl 3 rfl) ?_
        refine va_calli (va_runV (As := []) (rest := []) ⟨hx, hb, hml, hown, htC⟩ (c_MO_thrown (D := D) (cs := cs) him hq) (cwV 0 htC (good_V wC_800 wC_801 wC_802 wC_50 wC_803) rfl rfl rfl (by decide +kernel) ⟨(show 0 + 1 ≤ 2048 by decide), (show 8 + (1 + 11) + 0 ≤ 84000 by decide)⟩) ⟨mP_blind, va_recv hK hM (ci := 5) (q0 := 0) rfl (wd_at (by decide) rfl), fun U hU hW => ⟨rfl, by rw [hU]; exact hM, va_K.moved hW.alike hK, hN.warm hW⟩⟩ rfl rfl hl.1 rfl (lv_room (Nat.le_of_ble_eq_true rfl)) d_LW_law_251 ⟨(show _ + 0 ≤ 600002 by omega), (show _ + 0 ≤ 7302232 by omega)⟩) hS (fun q _ h => hAP.Am q h) hAP.Am (fun r18 s19 t H locs ht0 hvm hq hB hz1 hk1 hS => ?_)
        obtain ⟨hM, -, -⟩ := hB
        rw [ht0] at hM
        have hP := wd_kept hP hAP.c hk1
        have hO := keep_o hO hAP.2.2.2.2.2.1.1 hk1
        have hG := keep_o hG hAP.2.2.2.2.2.1.2 hk1
        refine lv_iload hx hb d_LW_law_254 (lv_at hl 0 rfl) ?_
        refine lv_icmp_eq (tgt := 261) hx hb d_LW_law_256 (by decide) (fun c20 => ?_) (fun c20 => ?_)
        · have hq := hq.1 c20
          refine lv_goto (tgt := 835) hx hb d_LW_law_261 (by decide) ?_
          refine lv_iinc (v := i + 5) (lv' := [(5, .int (i + 5)), (6, .int r14), (0, .ref b), (1, .ref (ad 0)), (2, .ref (am 0)), (3, .ref o1), (4, .ref o2)]) hx hb d_LW_law_835 hl (k := 6) rfl rfl (by decide) rfl (fun ls hl => ?_)
          refine lv_goto (tgt := 28) hx hb d_LW_law_838 (by decide) ?_
          exact ih (i + 5) s15 s19 f g _ _ _ _ ls (by omega) (by omega) hq hP hM hO hG hS (lv_sub hl [2, 3, 4, 5, 6, 0] rfl)
        · have hq := hq.2 c20
          refine lv_iconst (v := 0) hx hb d_LW_law_259 (by decide) ?_
          exact hq.elim
      have hq := hq.2 c13
      by_cases c21 : ((xs (i.toNatClampNeg)) &&& 15) = 2
      · have hq := hq.1 c21
        refine lv_tableIn (tgt := 264) hx hb d_LW_law_44 (by rw [c21]; decide) (by rw [c21]; decide) (by rw [c21]; rfl) (by decide) ?_
        refine lv_aload_n hx hb d_LW_law_264 rfl (lv_at hl 1 rfl) ?_
        refine lv_aload_n hx hb d_LW_law_265 rfl (lv_at hl 0 rfl) ?_
        refine lv_iload hx hb d_LW_law_266 (lv_at hl 5 rfl) ?_
        refine lv_iconst (v := 1) hx hb d_LW_law_268 (by decide) ?_
        refine lv_iadd hx hb d_LW_law_269 ?_
        refine va_sld hx hb hX hbl hbA hS hq.1 d_LW_law_270 ?_
        have hq := hq.2
        refine lv_aload_n hx hb d_LW_law_271 rfl (lv_at hl 0 rfl) ?_
        refine lv_iload hx hb d_LW_law_272 (lv_at hl 5 rfl) ?_
        refine lv_iconst (v := 2) hx hb d_LW_law_274 (by decide) ?_
        refine lv_iadd hx hb d_LW_law_275 ?_
        refine va_sld hx hb hX hbl hbA hS hq.1 d_LW_law_276 ?_
        have hq := hq.2
        refine lv_aload_n hx hb d_LW_law_277 rfl (lv_at hl 0 rfl) ?_
        refine lv_iload hx hb d_LW_law_278 (lv_at hl 5 rfl) ?_
        refine lv_iconst (v := 3) hx hb d_LW_law_280 (by decide) ?_
        refine lv_iadd hx hb d_LW_law_281 ?_
        refine va_sld hx hb hX hbl hbA hS hq.1 d_LW_law_282 ?_
        have hq := hq.2
        refine lv_aload_n hx hb d_LW_law_283 rfl (lv_at hl 0 rfl) ?_
        refine lv_iload hx hb d_LW_law_284 (lv_at hl 5 rfl) ?_
        refine lv_iconst (v := 4) hx hb d_LW_law_286 (by decide) ?_
        refine lv_iadd hx hb d_LW_law_287 ?_
        refine va_sld hx hb hX hbl hbA hS hq.1 d_LW_law_288 ?_
        have hq := hq.2
        refine lv_aload_n hx hb d_LW_law_289 rfl (lv_at hl 3 rfl) ?_
        refine va_calli (vx_runSW (As := [.ref (ad 0), .int (xs ((i + 1).toNatClampNeg)), .int (xs ((i + 2).toNatClampNeg)), .int (xs ((i + 3).toNatClampNeg)), .int (xs ((i + 4).toNatClampNeg)), .ref o1]) (rest := []) ⟨hx, hb, hml, hown, htC⟩ (c_LW_bounds hst (D := D) (cs := cs) (cL := cL) hi hAP.2.2.2.2.1.1 hq) (vx_cwSW 6 htC (good_S wC_380 wC_381 wC_43 wC_382) rfl rfl rfl (by decide +kernel) ⟨(show 7 + 1 ≤ 2048 by decide), (show 8 + (7 + 11) + 114 ≤ 84000 by decide)⟩) ⟨hPre_blind, fun U hU hW => ⟨rfl, by rw [hU]; exact hP.app hO, va_K.moved hW.alike hKL, hN.warm hW, (hXW.to hS hU hW).narrow hAP.A1, hNC.moved hW.alike⟩⟩ rfl rfl hl.1 rfl (lv_room (Nat.le_of_ble_eq_true rfl)) d_LW_law_290 ⟨(show _ + 1 ≤ 600002 by omega), (show _ + 6 ≤ 7302232 by omega)⟩) hS (fun q _ h => hAP.A1 q h) hAP.A1 (fun r22 u t H locs ht0 hvm hq hB hz1 hk1 hS => ?_)
        obtain ⟨s23, f24⟩ := u
        have hB : va_P D clA _ t.heap := hB
        rw [ht0] at hB
        have hM := wd_kept hM hAP.m1 hk1
        have hG := keep_o hG hAP.x1 hk1
        have hO := app_r hB
        have hP := app_l hB
        refine lv_istore (lv' := [(6, .int r22), (0, .ref b), (1, .ref (ad 0)), (2, .ref (am 0)), (3, .ref o1), (4, .ref o2), (5, .int i)]) hx hb d_LW_law_293 hl (by decide) rfl (fun ls hl => ?_)
        refine lv_aload_n hx hb d_LW_law_295 rfl (lv_at hl 3 rfl) ?_
        refine lv_aload_n hx hb d_LW_law_296 rfl (lv_at hl 1 rfl) ?_
        refine lv_iload hx hb d_LW_law_297 (lv_at hl 6 rfl) ?_
        refine lv_iconst (v := 1) hx hb d_LW_law_299 (by decide) ?_
        refine lv_iadd hx hb d_LW_law_300 ?_
        refine va_sld hx hb hX hbl hbA hS hq.1 d_LW_law_301 ?_
        have hq := hq.2
        refine lv_aload_n hx hb d_LW_law_302 rfl (lv_at hl 1 rfl) ?_
        refine lv_iload hx hb d_LW_law_303 (lv_at hl 6 rfl) ?_
        refine lv_iconst (v := 2) hx hb d_LW_law_305 (by decide) ?_
        refine lv_iadd hx hb d_LW_law_306 ?_
        refine va_sld hx hb hX hbl hbA hS hq.1 d_LW_law_307 ?_
        have hq := hq.2
        refine lv_aload_n hx hb d_LW_law_308 rfl (lv_at hl 1 rfl) ?_
        refine lv_iload hx hb d_LW_law_309 (lv_at hl 6 rfl) ?_
        refine lv_iconst (v := 3) hx hb d_LW_law_311 (by decide) ?_
        refine lv_iadd hx hb d_LW_law_312 ?_
        refine va_sld hx hb hX hbl hbA hS hq.1 d_LW_law_313 ?_
        have hq := hq.2
        refine lv_aload_n hx hb d_LW_law_314 rfl (lv_at hl 1 rfl) ?_
        refine lv_iload hx hb d_LW_law_315 (lv_at hl 6 rfl) ?_
        refine lv_iconst (v := 4) hx hb d_LW_law_317 (by decide) ?_
        refine lv_iadd hx hb d_LW_law_318 ?_
        refine va_sld hx hb hX hbl hbA hS hq.1 d_LW_law_319 ?_
        have hq := hq.2
        refine va_calli (va_runV (As := [.int (xs ((i + 1).toNatClampNeg)), .int (xs ((i + 2).toNatClampNeg)), .int (xs ((i + 3).toNatClampNeg)), .int (xs ((i + 4).toNatClampNeg))]) (rest := []) ⟨hx, hb, hml, hown, htC⟩ (c_MO_bounds (D := D) (cs := cs) him hq) (cwV 4 htC (good_V wC_827 wC_828 wC_829 wC_50 wC_830) rfl rfl rfl (by decide +kernel) ⟨(show 2 + 1 ≤ 2048 by decide), (show 8 + (6 + 11) + 43 ≤ 84000 by decide)⟩) ⟨mP_blind, va_recv hK hM (ci := 5) (q0 := 0) rfl (wd_at (by decide) rfl), fun U hU hW => ⟨rfl, by rw [hU]; exact hM, va_K.moved hW.alike hK, hN.warm hW⟩⟩ rfl rfl hl.1 rfl (lv_room (Nat.le_of_ble_eq_true rfl)) d_LW_law_320 ⟨(show _ + 0 ≤ 600002 by omega), (show _ + 0 ≤ 7302232 by omega)⟩) hS (fun q _ h => hAP.Am q h) hAP.Am (fun r25 s26 t H locs ht0 hvm hq hB hz1 hk1 hS => ?_)
        obtain ⟨hM, -, -⟩ := hB
        rw [ht0] at hM
        have hP := wd_kept hP hAP.c hk1
        have hO := keep_o hO hAP.2.2.2.2.2.1.1 hk1
        have hG := keep_o hG hAP.2.2.2.2.2.1.2 hk1
        refine lv_istore (lv' := [(7, .int r25), (6, .int r22), (0, .ref b), (1, .ref (ad 0)), (2, .ref (am 0)), (3, .ref o1), (4, .ref o2), (5, .int i)]) hx hb d_LW_law_323 hl (by decide) rfl (fun ls hl => ?_)
        refine lv_aload_n hx hb d_LW_law_325 rfl (lv_at hl 4 rfl) ?_
        refine va_calli (va_runV (As := []) (rest := []) ⟨hx, hb, hml, hown, htC⟩ (c_MO_thrown (D := D) (cs := cs) him hq) (cwV 0 htC (good_V wC_800 wC_801 wC_802 wC_50 wC_803) rfl rfl rfl (by decide +kernel) ⟨(show 0 + 1 ≤ 2048 by decide), (show 8 + (1 + 11) + 0 ≤ 84000 by decide)⟩) ⟨mP_blind, va_recv hK hM (ci := 5) (q0 := 0) rfl (wd_at (by decide) rfl), fun U hU hW => ⟨rfl, by rw [hU]; exact hM, va_K.moved hW.alike hK, hN.warm hW⟩⟩ rfl rfl hl.1 rfl (lv_room (Nat.le_of_ble_eq_true rfl)) d_LW_law_326 ⟨(show _ + 0 ≤ 600002 by omega), (show _ + 0 ≤ 7302232 by omega)⟩) hS (fun q _ h => hAP.Am q h) hAP.Am (fun r27 s28 t H locs ht0 hvm hq hB hz1 hk1 hS => ?_)
        obtain ⟨hM, -, -⟩ := hB
        rw [ht0] at hM
        have hP := wd_kept hP hAP.c hk1
        have hO := keep_o hO hAP.2.2.2.2.2.1.1 hk1
        have hG := keep_o hG hAP.2.2.2.2.2.1.2 hk1
        refine lv_iload hx hb d_LW_law_329 (lv_at hl 1 rfl) ?_
        refine lv_icmp_eq (tgt := 336) hx hb d_LW_law_331 (by decide) (fun c29 => ?_) (fun c29 => ?_)
        · have hq := hq.1 c29
          refine lv_iload hx hb d_LW_law_336 (lv_at hl 1 rfl) ?_
          refine lv_if_ne (tgt := 353) hx hb d_LW_law_338 (by decide) (fun c30 => ?_) (fun c30 => ?_)
          · have hq := hq.2 c30
            refine lv_goto (tgt := 835) hx hb d_LW_law_353 (by decide) ?_
            refine lv_iinc (v := i + 5) (lv' := [(5, .int (i + 5)), (7, .int r25), (6, .int r22), (0, .ref b), (1, .ref (ad 0)), (2, .ref (am 0)), (3, .ref o1), (4, .ref o2)]) hx hb d_LW_law_835 hl (k := 7) rfl rfl (by decide) rfl (fun ls hl => ?_)
            refine lv_goto (tgt := 28) hx hb d_LW_law_838 (by decide) ?_
            exact ih (i + 5) s23 s28 f24 g _ _ _ _ ls (by omega) (by omega) hq hP hM hO hG hS (lv_sub hl [3, 4, 5, 6, 7, 0] rfl)
          · have hq := hq.1 c30
            refine lv_aload_n hx hb d_LW_law_341 rfl (lv_at hl 5 rfl) ?_
            refine lv_iconst (v := 0) hx hb d_LW_law_342 (by decide) ?_
            refine va_lald hx hb hKL hO 0 3 rfl rfl (show vp_in _ _ by unfold vp_in; decide) d_LW_law_343 ?_
            refine lv_iload hx hb d_LW_law_344 (lv_at hl 0 rfl) ?_
            refine lv_i2l hx hb d_LW_law_346 rfl ?_
            refine W.lcmp hx hb d_LW_law_347 ?_
            refine lv_if_eq (tgt := 353) hx hb d_LW_law_348 (by decide) (fun c31 => ?_) (fun c31 => ?_)
            · have hq := hq.1 c31
              refine lv_goto (tgt := 835) hx hb d_LW_law_353 (by decide) ?_
              refine lv_iinc (v := i + 5) (lv' := [(5, .int (i + 5)), (7, .int r25), (6, .int r22), (0, .ref b), (1, .ref (ad 0)), (2, .ref (am 0)), (3, .ref o1), (4, .ref o2)]) hx hb d_LW_law_835 hl (k := 7) rfl rfl (by decide) rfl (fun ls hl => ?_)
              refine lv_goto (tgt := 28) hx hb d_LW_law_838 (by decide) ?_
              exact ih (i + 5) s23 s28 f24 g _ _ _ _ ls (by omega) (by omega) hq hP hM hO hG hS (lv_sub hl [3, 4, 5, 6, 7, 0] rfl)
            · have hq := hq.2 c31
              refine lv_iconst (v := 0) hx hb d_LW_law_351 (by decide) ?_
              exact hq.elim
        · have hq := hq.2 c29
          refine lv_iconst (v := 0) hx hb d_LW_law_334 (by decide) ?_
          exact hq.elim
      have hq := hq.2 c21
      by_cases c32 : ((xs (i.toNatClampNeg)) &&& 15) = 3
      · have hq := hq.1 c32
        refine lv_tableIn (tgt := 356) hx hb d_LW_law_44 (by rw [c32]; decide) (by rw [c32]; decide) (by rw [c32]; rfl) (by decide) ?_
        refine lv_aload_n hx hb d_LW_law_356 rfl (lv_at hl 1 rfl) ?_
        refine lv_aload_n hx hb d_LW_law_357 rfl (lv_at hl 0 rfl) ?_
        refine lv_iload hx hb d_LW_law_358 (lv_at hl 5 rfl) ?_
        refine lv_iconst (v := 1) hx hb d_LW_law_360 (by decide) ?_
        refine lv_iadd hx hb d_LW_law_361 ?_
        refine va_sld hx hb hX hbl hbA hS hq.1 d_LW_law_362 ?_
        have hq := hq.2
        refine lv_aload_n hx hb d_LW_law_363 rfl (lv_at hl 0 rfl) ?_
        refine lv_iload hx hb d_LW_law_364 (lv_at hl 5 rfl) ?_
        refine lv_iconst (v := 2) hx hb d_LW_law_366 (by decide) ?_
        refine lv_iadd hx hb d_LW_law_367 ?_
        refine va_sld hx hb hX hbl hbA hS hq.1 d_LW_law_368 ?_
        have hq := hq.2
        refine lv_i2d hx hb d_LW_law_369 ?_
        refine lv_ldc2d hx hb hown (ht _ wC_943) d_LW_law_370 ?_
        refine lv_dmul hx hb d_LW_law_373 hq.1 ?_
        have hq := hq.2
        refine lv_aload hx hb d_LW_law_374 (lv_at hl 4 rfl) ?_
        refine va_calli (vx_runSW (As := [.ref (ad 0), .int (xs ((i + 1).toNatClampNeg)), .double (FP.dmul (FP.i2d (xs ((i + 2).toNatClampNeg))) 4593671619917905920), .ref o2]) (rest := []) ⟨hx, hb, hml, hown, htC⟩ (c_LW_put hst (D := D) (cs := cs) (cL := cL) hi hAP.2.2.2.2.1.2 hq) (vx_cwSW 4 htC (good_S wC_402 wC_403 wC_43 wC_404) rfl rfl rfl (by decide +kernel) ⟨(show 7 + 1 ≤ 2048 by decide), (show 8 + (6 + 11) + 115 ≤ 84000 by decide)⟩) ⟨hPre_blind, fun U hU hW => ⟨rfl, by rw [hU]; exact hP.app hG, va_K.moved hW.alike hKL, hN.warm hW, (hXW.to hS hU hW).narrow hAP.A2, hNC.moved hW.alike⟩⟩ rfl rfl hl.1 rfl (lv_room (Nat.le_of_ble_eq_true rfl)) d_LW_law_376 ⟨(show _ + 1 ≤ 600002 by omega), (show _ + 6 ≤ 7302232 by omega)⟩) hS (fun q _ h => hAP.A2 q h) hAP.A2 (fun r33 u t H locs ht0 hvm hq hB hz1 hk1 hS => ?_)
        obtain ⟨s34, f35⟩ := u
        have hB : va_P D clA _ t.heap := hB
        rw [ht0] at hB
        have hM := wd_kept hM hAP.m2 hk1
        have hO := keep_o hO hAP.x2 hk1
        have hG := app_r hB
        have hP := app_l hB
        refine lv_istore (lv' := [(6, .int r33), (0, .ref b), (1, .ref (ad 0)), (2, .ref (am 0)), (3, .ref o1), (4, .ref o2), (5, .int i)]) hx hb d_LW_law_379 hl (by decide) rfl (fun ls hl => ?_)
        refine lv_aload_n hx hb d_LW_law_381 rfl (lv_at hl 3 rfl) ?_
        refine lv_aload_n hx hb d_LW_law_382 rfl (lv_at hl 1 rfl) ?_
        refine lv_iload hx hb d_LW_law_383 (lv_at hl 6 rfl) ?_
        refine lv_iconst (v := 1) hx hb d_LW_law_385 (by decide) ?_
        refine lv_iadd hx hb d_LW_law_386 ?_
        refine va_sld hx hb hX hbl hbA hS hq.1 d_LW_law_387 ?_
        have hq := hq.2
        refine lv_aload_n hx hb d_LW_law_388 rfl (lv_at hl 1 rfl) ?_
        refine lv_iload hx hb d_LW_law_389 (lv_at hl 6 rfl) ?_
        refine lv_iconst (v := 2) hx hb d_LW_law_391 (by decide) ?_
        refine lv_iadd hx hb d_LW_law_392 ?_
        refine va_sld hx hb hX hbl hbA hS hq.1 d_LW_law_393 ?_
        have hq := hq.2
        refine lv_i2d hx hb d_LW_law_394 ?_
        refine lv_ldc2d hx hb hown (ht _ wC_943) d_LW_law_395 ?_
        refine lv_dmul hx hb d_LW_law_398 hq.1 ?_
        have hq := hq.2
        refine va_calld (va_runV (As := [.int (xs ((i + 1).toNatClampNeg)), .double (FP.dmul (FP.i2d (xs ((i + 2).toNatClampNeg))) 4593671619917905920)]) (rest := []) ⟨hx, hb, hml, hown, htC⟩ (c_MO_put (D := D) (cs := cs) him hq) (cwV 2 htC (good_V wC_834 wC_835 wC_836 wC_50 wC_837) rfl rfl rfl (by decide +kernel) ⟨(show 1 + 1 ≤ 2048 by decide), (show 8 + (6 + 11) + 25 ≤ 84000 by decide)⟩) ⟨mP_blind, va_recv hK hM (ci := 5) (q0 := 0) rfl (wd_at (by decide) rfl), fun U hU hW => ⟨rfl, by rw [hU]; exact hM, va_K.moved hW.alike hK, hN.warm hW⟩⟩ rfl rfl hl.1 rfl (lv_room (Nat.le_of_ble_eq_true rfl)) d_LW_law_399 ⟨(show _ + 0 ≤ 600002 by omega), (show _ + 0 ≤ 7302232 by omega)⟩) hS (fun q _ h => hAP.Am q h) hAP.Am (fun r36 s37 t H locs ht0 hvm hq hB hz1 hk1 hS => ?_)
        obtain ⟨hM, -, -⟩ := hB
        rw [ht0] at hM
        have hP := wd_kept hP hAP.c hk1
        have hO := keep_o hO hAP.2.2.2.2.2.1.1 hk1
        have hG := keep_o hG hAP.2.2.2.2.2.1.2 hk1
        refine lv_dstore (lv' := [(7, .double r36), (6, .int r33), (0, .ref b), (1, .ref (ad 0)), (2, .ref (am 0)), (3, .ref o1), (4, .ref o2), (5, .int i)]) hx hb d_LW_law_402 hl (by decide) rfl (fun ls hl => ?_)
        refine lv_aload_n hx hb d_LW_law_404 rfl (lv_at hl 4 rfl) ?_
        refine va_calli (va_runV (As := []) (rest := []) ⟨hx, hb, hml, hown, htC⟩ (c_MO_thrown (D := D) (cs := cs) him hq) (cwV 0 htC (good_V wC_800 wC_801 wC_802 wC_50 wC_803) rfl rfl rfl (by decide +kernel) ⟨(show 0 + 1 ≤ 2048 by decide), (show 8 + (1 + 11) + 0 ≤ 84000 by decide)⟩) ⟨mP_blind, va_recv hK hM (ci := 5) (q0 := 0) rfl (wd_at (by decide) rfl), fun U hU hW => ⟨rfl, by rw [hU]; exact hM, va_K.moved hW.alike hK, hN.warm hW⟩⟩ rfl rfl hl.1 rfl (lv_room (Nat.le_of_ble_eq_true rfl)) d_LW_law_405 ⟨(show _ + 0 ≤ 600002 by omega), (show _ + 0 ≤ 7302232 by omega)⟩) hS (fun q _ h => hAP.Am q h) hAP.Am (fun r38 s39 t H locs ht0 hvm hq hB hz1 hk1 hS => ?_)
        obtain ⟨hM, -, -⟩ := hB
        rw [ht0] at hM
        have hP := wd_kept hP hAP.c hk1
        have hO := keep_o hO hAP.2.2.2.2.2.1.1 hk1
        have hG := keep_o hG hAP.2.2.2.2.2.1.2 hk1
        refine lv_iload hx hb d_LW_law_408 (lv_at hl 1 rfl) ?_
        refine lv_icmp_eq (tgt := 415) hx hb d_LW_law_410 (by decide) (fun c40 => ?_) (fun c40 => ?_)
        · have hq := hq.1 c40
          refine lv_iload hx hb d_LW_law_415 (lv_at hl 1 rfl) ?_
          refine lv_if_ne (tgt := 452) hx hb d_LW_law_417 (by decide) (fun c41 => ?_) (fun c41 => ?_)
          · have hq := hq.2 c41
            refine lv_goto (tgt := 835) hx hb d_LW_law_452 (by decide) ?_
            refine lv_iinc (v := i + 5) (lv' := [(5, .int (i + 5)), (7, .double r36), (6, .int r33), (0, .ref b), (1, .ref (ad 0)), (2, .ref (am 0)), (3, .ref o1), (4, .ref o2)]) hx hb d_LW_law_835 hl (k := 7) rfl rfl (by decide) rfl (fun ls hl => ?_)
            refine lv_goto (tgt := 28) hx hb d_LW_law_838 (by decide) ?_
            exact ih (i + 5) s34 s39 f f35 _ _ _ _ ls (by omega) (by omega) hq hP hM hO hG hS (lv_sub hl [3, 4, 5, 6, 7, 0] rfl)
          · have hq := hq.1 c41
            refine lv_aload hx hb d_LW_law_420 (lv_at hl 6 rfl) ?_
            refine lv_iconst (v := 0) hx hb d_LW_law_422 (by decide) ?_
            refine va_dald hx hb hKL hG 0 1 rfl rfl (show vp_in _ _ by unfold vp_in; decide) d_LW_law_423 ?_
            refine lv_dload hx hb d_LW_law_424 (lv_at hl 0 rfl) ?_
            refine lv_dcmp hx hb d_LW_law_426 ?_
            refine lv_if_eq (tgt := 452) hx hb d_LW_law_427 (by decide) (fun c42 => ?_) (fun c42 => ?_)
            · have hq := hq.1 c42
              refine lv_goto (tgt := 835) hx hb d_LW_law_452 (by decide) ?_
              refine lv_iinc (v := i + 5) (lv' := [(5, .int (i + 5)), (7, .double r36), (6, .int r33), (0, .ref b), (1, .ref (ad 0)), (2, .ref (am 0)), (3, .ref o1), (4, .ref o2)]) hx hb d_LW_law_835 hl (k := 7) rfl rfl (by decide) rfl (fun ls hl => ?_)
              refine lv_goto (tgt := 28) hx hb d_LW_law_838 (by decide) ?_
              exact ih (i + 5) s34 s39 f f35 _ _ _ _ ls (by omega) (by omega) hq hP hM hO hG hS (lv_sub hl [3, 4, 5, 6, 7, 0] rfl)
            · have hq := hq.2 c42
              refine lv_aload hx hb d_LW_law_430 (lv_at hl 6 rfl) ?_
              refine lv_iconst (v := 0) hx hb d_LW_law_432 (by decide) ?_
              refine va_dald hx hb hKL hG 0 1 rfl rfl (show vp_in _ _ by unfold vp_in; decide) d_LW_law_433 ?_
              refine lv_aload hx hb d_LW_law_434 (lv_at hl 6 rfl) ?_
              refine lv_iconst (v := 0) hx hb d_LW_law_436 (by decide) ?_
              refine va_dald hx hb hKL hG 0 1 rfl rfl (show vp_in _ _ by unfold vp_in; decide) d_LW_law_437 ?_
              refine lv_dcmp hx hb d_LW_law_438 ?_
              refine lv_if_eq (tgt := 450) hx hb d_LW_law_439 (by decide) (fun c43 => ?_) (fun c43 => ?_)
              · have hq := hq.1 c43
                refine lv_iconst (v := 0) hx hb d_LW_law_450 (by decide) ?_
                exact hq.elim
              · have hq := hq.2 c43
                refine lv_dload hx hb d_LW_law_442 (lv_at hl 0 rfl) ?_
                refine lv_dload hx hb d_LW_law_444 (lv_at hl 0 rfl) ?_
                refine lv_dcmp hx hb d_LW_law_446 ?_
                refine lv_if_ne (tgt := 452) hx hb d_LW_law_447 (by decide) (fun c44 => ?_) (fun c44 => ?_)
                · have hq := hq.2 c44
                  refine lv_goto (tgt := 835) hx hb d_LW_law_452 (by decide) ?_
                  refine lv_iinc (v := i + 5) (lv' := [(5, .int (i + 5)), (7, .double r36), (6, .int r33), (0, .ref b), (1, .ref (ad 0)), (2, .ref (am 0)), (3, .ref o1), (4, .ref o2)]) hx hb d_LW_law_835 hl (k := 7) rfl rfl (by decide) rfl (fun ls hl => ?_)
                  refine lv_goto (tgt := 28) hx hb d_LW_law_838 (by decide) ?_
                  exact ih (i + 5) s34 s39 f f35 _ _ _ _ ls (by omega) (by omega) hq hP hM hO hG hS (lv_sub hl [3, 4, 5, 6, 7, 0] rfl)
                · have hq := hq.1 c44
                  refine lv_iconst (v := 0) hx hb d_LW_law_450 (by decide) ?_
                  exact hq.elim
        · have hq := hq.2 c40
          refine lv_iconst (v := 0) hx hb d_LW_law_413 (by decide) ?_
          exact hq.elim
      have hq := hq.2 c32
      by_cases c45 : ((xs (i.toNatClampNeg)) &&& 15) = 4
      · have hq := hq.1 c45
        refine lv_tableIn (tgt := 455) hx hb d_LW_law_44 (by rw [c45]; decide) (by rw [c45]; decide) (by rw [c45]; rfl) (by decide) ?_
        refine lv_aload_n hx hb d_LW_law_455 rfl (lv_at hl 1 rfl) ?_
        refine lv_aload_n hx hb d_LW_law_456 rfl (lv_at hl 0 rfl) ?_
        refine lv_iload hx hb d_LW_law_457 (lv_at hl 5 rfl) ?_
        refine lv_iconst (v := 1) hx hb d_LW_law_459 (by decide) ?_
        refine lv_iadd hx hb d_LW_law_460 ?_
        refine va_sld hx hb hX hbl hbA hS hq.1 d_LW_law_461 ?_
        have hq := hq.2
        refine lv_aload hx hb d_LW_law_462 (lv_at hl 4 rfl) ?_
        refine va_calli (vx_runSW (As := [.ref (ad 0), .int (xs ((i + 1).toNatClampNeg)), .ref o2]) (rest := []) ⟨hx, hb, hml, hown, htC⟩ (c_LW_work hst (D := D) (cs := cs) (cL := cL) hi hAP.2.2.2.2.1.2 hq) (vx_cwSW 3 htC (good_S wC_423 wC_424 wC_43 wC_425) rfl rfl rfl (by decide +kernel) ⟨(show 1628 + 1 ≤ 2048 by decide), (show 8 + (4 + 11) + 46662 ≤ 84000 by decide)⟩) ⟨hPre_blind, fun U hU hW => ⟨rfl, by rw [hU]; exact hP.app hG, va_K.moved hW.alike hKL, hN.warm hW, (hXW.to hS hU hW).narrow hAP.A2, hNC.moved hW.alike⟩⟩ rfl rfl hl.1 rfl (lv_room (Nat.le_of_ble_eq_true rfl)) d_LW_law_464 ⟨(show _ + 1 ≤ 600002 by omega), (show _ + 6 ≤ 7302232 by omega)⟩) hS (fun q _ h => hAP.A2 q h) hAP.A2 (fun r46 u t H locs ht0 hvm hq hB hz1 hk1 hS => ?_)
        obtain ⟨s47, f48⟩ := u
        have hB : va_P D clA _ t.heap := hB
        rw [ht0] at hB
        have hM := wd_kept hM hAP.m2 hk1
        have hO := keep_o hO hAP.x2 hk1
        have hG := app_r hB
        have hP := app_l hB
        refine lv_istore (lv' := [(6, .int r46), (0, .ref b), (1, .ref (ad 0)), (2, .ref (am 0)), (3, .ref o1), (4, .ref o2), (5, .int i)]) hx hb d_LW_law_467 hl (by decide) rfl (fun ls hl => ?_)
        refine lv_aload_n hx hb d_LW_law_469 rfl (lv_at hl 3 rfl) ?_
        refine lv_aload_n hx hb d_LW_law_470 rfl (lv_at hl 1 rfl) ?_
        refine lv_iload hx hb d_LW_law_471 (lv_at hl 6 rfl) ?_
        refine lv_iconst (v := 1) hx hb d_LW_law_473 (by decide) ?_
        refine lv_iadd hx hb d_LW_law_474 ?_
        refine va_sld hx hb hX hbl hbA hS hq.1 d_LW_law_475 ?_
        have hq := hq.2
        refine va_calld (va_runV (As := [.int (xs ((i + 1).toNatClampNeg))]) (rest := []) ⟨hx, hb, hml, hown, htC⟩ (c_MO_work (D := D) (cs := cs) him hq) (cwV 1 htC (good_V wC_847 wC_848 wC_849 wC_50 wC_850) rfl rfl rfl (by decide +kernel) ⟨(show 5 + 1 ≤ 2048 by decide), (show 8 + (3 + 11) + 112 ≤ 84000 by decide)⟩) ⟨mP_blind, va_recv hK hM (ci := 5) (q0 := 0) rfl (wd_at (by decide) rfl), fun U hU hW => ⟨rfl, by rw [hU]; exact hM, va_K.moved hW.alike hK, hN.warm hW⟩⟩ rfl rfl hl.1 rfl (lv_room (Nat.le_of_ble_eq_true rfl)) d_LW_law_476 ⟨(show _ + 0 ≤ 600002 by omega), (show _ + 0 ≤ 7302232 by omega)⟩) hS (fun q _ h => hAP.Am q h) hAP.Am (fun r49 s50 t H locs ht0 hvm hq hB hz1 hk1 hS => ?_)
        obtain ⟨hM, -, -⟩ := hB
        rw [ht0] at hM
        have hP := wd_kept hP hAP.c hk1
        have hO := keep_o hO hAP.2.2.2.2.2.1.1 hk1
        have hG := keep_o hG hAP.2.2.2.2.2.1.2 hk1
        refine lv_dstore (lv' := [(7, .double r49), (6, .int r46), (0, .ref b), (1, .ref (ad 0)), (2, .ref (am 0)), (3, .ref o1), (4, .ref o2), (5, .int i)]) hx hb d_LW_law_479 hl (by decide) rfl (fun ls hl => ?_)
        refine lv_aload_n hx hb d_LW_law_481 rfl (lv_at hl 4 rfl) ?_
        refine va_calli (va_runV (As := []) (rest := []) ⟨hx, hb, hml, hown, htC⟩ (c_MO_thrown (D := D) (cs := cs) him hq) (cwV 0 htC (good_V wC_800 wC_801 wC_802 wC_50 wC_803) rfl rfl rfl (by decide +kernel) ⟨(show 0 + 1 ≤ 2048 by decide), (show 8 + (1 + 11) + 0 ≤ 84000 by decide)⟩) ⟨mP_blind, va_recv hK hM (ci := 5) (q0 := 0) rfl (wd_at (by decide) rfl), fun U hU hW => ⟨rfl, by rw [hU]; exact hM, va_K.moved hW.alike hK, hN.warm hW⟩⟩ rfl rfl hl.1 rfl (lv_room (Nat.le_of_ble_eq_true rfl)) d_LW_law_482 ⟨(show _ + 0 ≤ 600002 by omega), (show _ + 0 ≤ 7302232 by omega)⟩) hS (fun q _ h => hAP.Am q h) hAP.Am (fun r51 s52 t H locs ht0 hvm hq hB hz1 hk1 hS => ?_)
        obtain ⟨hM, -, -⟩ := hB
        rw [ht0] at hM
        have hP := wd_kept hP hAP.c hk1
        have hO := keep_o hO hAP.2.2.2.2.2.1.1 hk1
        have hG := keep_o hG hAP.2.2.2.2.2.1.2 hk1
        refine lv_iload hx hb d_LW_law_485 (lv_at hl 1 rfl) ?_
        refine lv_icmp_eq (tgt := 492) hx hb d_LW_law_487 (by decide) (fun c53 => ?_) (fun c53 => ?_)
        · have hq := hq.1 c53
          refine lv_iload hx hb d_LW_law_492 (lv_at hl 1 rfl) ?_
          refine lv_if_ne (tgt := 529) hx hb d_LW_law_494 (by decide) (fun c54 => ?_) (fun c54 => ?_)
          · have hq := hq.2 c54
            refine lv_goto (tgt := 835) hx hb d_LW_law_529 (by decide) ?_
            refine lv_iinc (v := i + 5) (lv' := [(5, .int (i + 5)), (7, .double r49), (6, .int r46), (0, .ref b), (1, .ref (ad 0)), (2, .ref (am 0)), (3, .ref o1), (4, .ref o2)]) hx hb d_LW_law_835 hl (k := 7) rfl rfl (by decide) rfl (fun ls hl => ?_)
            refine lv_goto (tgt := 28) hx hb d_LW_law_838 (by decide) ?_
            exact ih (i + 5) s47 s52 f f48 _ _ _ _ ls (by omega) (by omega) hq hP hM hO hG hS (lv_sub hl [3, 4, 5, 6, 7, 0] rfl)
          · have hq := hq.1 c54
            refine lv_aload hx hb d_LW_law_497 (lv_at hl 6 rfl) ?_
            refine lv_iconst (v := 0) hx hb d_LW_law_499 (by decide) ?_
            refine va_dald hx hb hKL hG 0 1 rfl rfl (show vp_in _ _ by unfold vp_in; decide) d_LW_law_500 ?_
            refine lv_dload hx hb d_LW_law_501 (lv_at hl 0 rfl) ?_
            refine lv_dcmp hx hb d_LW_law_503 ?_
            refine lv_if_eq (tgt := 529) hx hb d_LW_law_504 (by decide) (fun c55 => ?_) (fun c55 => ?_)
            · have hq := hq.1 c55
              refine lv_goto (tgt := 835) hx hb d_LW_law_529 (by decide) ?_
              refine lv_iinc (v := i + 5) (lv' := [(5, .int (i + 5)), (7, .double r49), (6, .int r46), (0, .ref b), (1, .ref (ad 0)), (2, .ref (am 0)), (3, .ref o1), (4, .ref o2)]) hx hb d_LW_law_835 hl (k := 7) rfl rfl (by decide) rfl (fun ls hl => ?_)
              refine lv_goto (tgt := 28) hx hb d_LW_law_838 (by decide) ?_
              exact ih (i + 5) s47 s52 f f48 _ _ _ _ ls (by omega) (by omega) hq hP hM hO hG hS (lv_sub hl [3, 4, 5, 6, 7, 0] rfl)
            · have hq := hq.2 c55
              refine lv_aload hx hb d_LW_law_507 (lv_at hl 6 rfl) ?_
              refine lv_iconst (v := 0) hx hb d_LW_law_509 (by decide) ?_
              refine va_dald hx hb hKL hG 0 1 rfl rfl (show vp_in _ _ by unfold vp_in; decide) d_LW_law_510 ?_
              refine lv_aload hx hb d_LW_law_511 (lv_at hl 6 rfl) ?_
              refine lv_iconst (v := 0) hx hb d_LW_law_513 (by decide) ?_
              refine va_dald hx hb hKL hG 0 1 rfl rfl (show vp_in _ _ by unfold vp_in; decide) d_LW_law_514 ?_
              refine lv_dcmp hx hb d_LW_law_515 ?_
              refine lv_if_eq (tgt := 527) hx hb d_LW_law_516 (by decide) (fun c56 => ?_) (fun c56 => ?_)
              · have hq := hq.1 c56
                refine lv_iconst (v := 0) hx hb d_LW_law_527 (by decide) ?_
                exact hq.elim
              · have hq := hq.2 c56
                refine lv_dload hx hb d_LW_law_519 (lv_at hl 0 rfl) ?_
                refine lv_dload hx hb d_LW_law_521 (lv_at hl 0 rfl) ?_
                refine lv_dcmp hx hb d_LW_law_523 ?_
                refine lv_if_ne (tgt := 529) hx hb d_LW_law_524 (by decide) (fun c57 => ?_) (fun c57 => ?_)
                · have hq := hq.2 c57
                  refine lv_goto (tgt := 835) hx hb d_LW_law_529 (by decide) ?_
                  refine lv_iinc (v := i + 5) (lv' := [(5, .int (i + 5)), (7, .double r49), (6, .int r46), (0, .ref b), (1, .ref (ad 0)), (2, .ref (am 0)), (3, .ref o1), (4, .ref o2)]) hx hb d_LW_law_835 hl (k := 7) rfl rfl (by decide) rfl (fun ls hl => ?_)
                  refine lv_goto (tgt := 28) hx hb d_LW_law_838 (by decide) ?_
                  exact ih (i + 5) s47 s52 f f48 _ _ _ _ ls (by omega) (by omega) hq hP hM hO hG hS (lv_sub hl [3, 4, 5, 6, 7, 0] rfl)
                · have hq := hq.1 c57
                  refine lv_iconst (v := 0) hx hb d_LW_law_527 (by decide) ?_
                  exact hq.elim
        · have hq := hq.2 c53
          refine lv_iconst (v := 0) hx hb d_LW_law_490 (by decide) ?_
          exact hq.elim
      have hq := hq.2 c45
      by_cases c58 : ((xs (i.toNatClampNeg)) &&& 15) = 5
      · have hq := hq.1 c58
        refine lv_tableIn (tgt := 532) hx hb d_LW_law_44 (by rw [c58]; decide) (by rw [c58]; decide) (by rw [c58]; rfl) (by decide) ?_
        refine lv_aload_n hx hb d_LW_law_532 rfl (lv_at hl 1 rfl) ?_
        refine lv_aload_n hx hb d_LW_law_533 rfl (lv_at hl 0 rfl) ?_
        refine lv_iload hx hb d_LW_law_534 (lv_at hl 5 rfl) ?_
        refine lv_iconst (v := 1) hx hb d_LW_law_536 (by decide) ?_
        refine lv_iadd hx hb d_LW_law_537 ?_
        refine va_sld hx hb hX hbl hbA hS hq.1 d_LW_law_538 ?_
        have hq := hq.2
        refine lv_aload hx hb d_LW_law_539 (lv_at hl 4 rfl) ?_
        refine va_calli (vx_runSW (As := [.ref (ad 0), .int (xs ((i + 1).toNatClampNeg)), .ref o2]) (rest := []) ⟨hx, hb, hml, hown, htC⟩ (c_LW_variable hst (D := D) (cs := cs) (cL := cL) hi hAP.2.2.2.2.1.2 hq) (vx_cwSW 3 htC (good_S wC_642 wC_643 wC_43 wC_644) rfl rfl rfl (by decide +kernel) ⟨(show 7 + 1 ≤ 2048 by decide), (show 8 + (4 + 11) + 111 ≤ 84000 by decide)⟩) ⟨hPre_blind, fun U hU hW => ⟨rfl, by rw [hU]; exact hP.app hG, va_K.moved hW.alike hKL, hN.warm hW, (hXW.to hS hU hW).narrow hAP.A2, hNC.moved hW.alike⟩⟩ rfl rfl hl.1 rfl (lv_room (Nat.le_of_ble_eq_true rfl)) d_LW_law_541 ⟨(show _ + 1 ≤ 600002 by omega), (show _ + 6 ≤ 7302232 by omega)⟩) hS (fun q _ h => hAP.A2 q h) hAP.A2 (fun r59 u t H locs ht0 hvm hq hB hz1 hk1 hS => ?_)
        obtain ⟨s60, f61⟩ := u
        have hB : va_P D clA _ t.heap := hB
        rw [ht0] at hB
        have hM := wd_kept hM hAP.m2 hk1
        have hO := keep_o hO hAP.x2 hk1
        have hG := app_r hB
        have hP := app_l hB
        refine lv_istore (lv' := [(6, .int r59), (0, .ref b), (1, .ref (ad 0)), (2, .ref (am 0)), (3, .ref o1), (4, .ref o2), (5, .int i)]) hx hb d_LW_law_544 hl (by decide) rfl (fun ls hl => ?_)
        refine lv_aload_n hx hb d_LW_law_546 rfl (lv_at hl 3 rfl) ?_
        refine lv_aload_n hx hb d_LW_law_547 rfl (lv_at hl 1 rfl) ?_
        refine lv_iload hx hb d_LW_law_548 (lv_at hl 6 rfl) ?_
        refine lv_iconst (v := 1) hx hb d_LW_law_550 (by decide) ?_
        refine lv_iadd hx hb d_LW_law_551 ?_
        refine va_sld hx hb hX hbl hbA hS hq.1 d_LW_law_552 ?_
        have hq := hq.2
        refine va_calld (va_runV (As := [.int (xs ((i + 1).toNatClampNeg))]) (rest := []) ⟨hx, hb, hml, hown, htC⟩ (c_MO_variable (D := D) (cs := cs) him hq) (cwV 1 htC (good_V wC_923 wC_924 wC_925 wC_50 wC_926) rfl rfl rfl (by decide +kernel) ⟨(show 1 + 1 ≤ 2048 by decide), (show 8 + (2 + 11) + 22 ≤ 84000 by decide)⟩) ⟨mP_blind, va_recv hK hM (ci := 5) (q0 := 0) rfl (wd_at (by decide) rfl), fun U hU hW => ⟨rfl, by rw [hU]; exact hM, va_K.moved hW.alike hK, hN.warm hW⟩⟩ rfl rfl hl.1 rfl (lv_room (Nat.le_of_ble_eq_true rfl)) d_LW_law_553 ⟨(show _ + 0 ≤ 600002 by omega), (show _ + 0 ≤ 7302232 by omega)⟩) hS (fun q _ h => hAP.Am q h) hAP.Am (fun r62 s63 t H locs ht0 hvm hq hB hz1 hk1 hS => ?_)
        obtain ⟨hM, -, -⟩ := hB
        rw [ht0] at hM
        have hP := wd_kept hP hAP.c hk1
        have hO := keep_o hO hAP.2.2.2.2.2.1.1 hk1
        have hG := keep_o hG hAP.2.2.2.2.2.1.2 hk1
        refine lv_dstore (lv' := [(7, .double r62), (6, .int r59), (0, .ref b), (1, .ref (ad 0)), (2, .ref (am 0)), (3, .ref o1), (4, .ref o2), (5, .int i)]) hx hb d_LW_law_556 hl (by decide) rfl (fun ls hl => ?_)
        refine lv_aload_n hx hb d_LW_law_558 rfl (lv_at hl 4 rfl) ?_
        refine va_calli (va_runV (As := []) (rest := []) ⟨hx, hb, hml, hown, htC⟩ (c_MO_thrown (D := D) (cs := cs) him hq) (cwV 0 htC (good_V wC_800 wC_801 wC_802 wC_50 wC_803) rfl rfl rfl (by decide +kernel) ⟨(show 0 + 1 ≤ 2048 by decide), (show 8 + (1 + 11) + 0 ≤ 84000 by decide)⟩) ⟨mP_blind, va_recv hK hM (ci := 5) (q0 := 0) rfl (wd_at (by decide) rfl), fun U hU hW => ⟨rfl, by rw [hU]; exact hM, va_K.moved hW.alike hK, hN.warm hW⟩⟩ rfl rfl hl.1 rfl (lv_room (Nat.le_of_ble_eq_true rfl)) d_LW_law_559 ⟨(show _ + 0 ≤ 600002 by omega), (show _ + 0 ≤ 7302232 by omega)⟩) hS (fun q _ h => hAP.Am q h) hAP.Am (fun r64 s65 t H locs ht0 hvm hq hB hz1 hk1 hS => ?_)
        obtain ⟨hM, -, -⟩ := hB
        rw [ht0] at hM
        have hP := wd_kept hP hAP.c hk1
        have hO := keep_o hO hAP.2.2.2.2.2.1.1 hk1
        have hG := keep_o hG hAP.2.2.2.2.2.1.2 hk1
        refine lv_iload hx hb d_LW_law_562 (lv_at hl 1 rfl) ?_
        refine lv_icmp_eq (tgt := 569) hx hb d_LW_law_564 (by decide) (fun c66 => ?_) (fun c66 => ?_)
        · have hq := hq.1 c66
          refine lv_iload hx hb d_LW_law_569 (lv_at hl 1 rfl) ?_
          refine lv_if_ne (tgt := 606) hx hb d_LW_law_571 (by decide) (fun c67 => ?_) (fun c67 => ?_)
          · have hq := hq.2 c67
            refine lv_goto (tgt := 835) hx hb d_LW_law_606 (by decide) ?_
            refine lv_iinc (v := i + 5) (lv' := [(5, .int (i + 5)), (7, .double r62), (6, .int r59), (0, .ref b), (1, .ref (ad 0)), (2, .ref (am 0)), (3, .ref o1), (4, .ref o2)]) hx hb d_LW_law_835 hl (k := 7) rfl rfl (by decide) rfl (fun ls hl => ?_)
            refine lv_goto (tgt := 28) hx hb d_LW_law_838 (by decide) ?_
            exact ih (i + 5) s60 s65 f f61 _ _ _ _ ls (by omega) (by omega) hq hP hM hO hG hS (lv_sub hl [3, 4, 5, 6, 7, 0] rfl)
          · have hq := hq.1 c67
            refine lv_aload hx hb d_LW_law_574 (lv_at hl 6 rfl) ?_
            refine lv_iconst (v := 0) hx hb d_LW_law_576 (by decide) ?_
            refine va_dald hx hb hKL hG 0 1 rfl rfl (show vp_in _ _ by unfold vp_in; decide) d_LW_law_577 ?_
            refine lv_dload hx hb d_LW_law_578 (lv_at hl 0 rfl) ?_
            refine lv_dcmp hx hb d_LW_law_580 ?_
            refine lv_if_eq (tgt := 606) hx hb d_LW_law_581 (by decide) (fun c68 => ?_) (fun c68 => ?_)
            · have hq := hq.1 c68
              refine lv_goto (tgt := 835) hx hb d_LW_law_606 (by decide) ?_
              refine lv_iinc (v := i + 5) (lv' := [(5, .int (i + 5)), (7, .double r62), (6, .int r59), (0, .ref b), (1, .ref (ad 0)), (2, .ref (am 0)), (3, .ref o1), (4, .ref o2)]) hx hb d_LW_law_835 hl (k := 7) rfl rfl (by decide) rfl (fun ls hl => ?_)
              refine lv_goto (tgt := 28) hx hb d_LW_law_838 (by decide) ?_
              exact ih (i + 5) s60 s65 f f61 _ _ _ _ ls (by omega) (by omega) hq hP hM hO hG hS (lv_sub hl [3, 4, 5, 6, 7, 0] rfl)
            · have hq := hq.2 c68
              refine lv_aload hx hb d_LW_law_584 (lv_at hl 6 rfl) ?_
              refine lv_iconst (v := 0) hx hb d_LW_law_586 (by decide) ?_
              refine va_dald hx hb hKL hG 0 1 rfl rfl (show vp_in _ _ by unfold vp_in; decide) d_LW_law_587 ?_
              refine lv_aload hx hb d_LW_law_588 (lv_at hl 6 rfl) ?_
              refine lv_iconst (v := 0) hx hb d_LW_law_590 (by decide) ?_
              refine va_dald hx hb hKL hG 0 1 rfl rfl (show vp_in _ _ by unfold vp_in; decide) d_LW_law_591 ?_
              refine lv_dcmp hx hb d_LW_law_592 ?_
              refine lv_if_eq (tgt := 604) hx hb d_LW_law_593 (by decide) (fun c69 => ?_) (fun c69 => ?_)
              · have hq := hq.1 c69
                refine lv_iconst (v := 0) hx hb d_LW_law_604 (by decide) ?_
                exact hq.elim
              · have hq := hq.2 c69
                refine lv_dload hx hb d_LW_law_596 (lv_at hl 0 rfl) ?_
                refine lv_dload hx hb d_LW_law_598 (lv_at hl 0 rfl) ?_
                refine lv_dcmp hx hb d_LW_law_600 ?_
                refine lv_if_ne (tgt := 606) hx hb d_LW_law_601 (by decide) (fun c70 => ?_) (fun c70 => ?_)
                · have hq := hq.2 c70
                  refine lv_goto (tgt := 835) hx hb d_LW_law_606 (by decide) ?_
                  refine lv_iinc (v := i + 5) (lv' := [(5, .int (i + 5)), (7, .double r62), (6, .int r59), (0, .ref b), (1, .ref (ad 0)), (2, .ref (am 0)), (3, .ref o1), (4, .ref o2)]) hx hb d_LW_law_835 hl (k := 7) rfl rfl (by decide) rfl (fun ls hl => ?_)
                  refine lv_goto (tgt := 28) hx hb d_LW_law_838 (by decide) ?_
                  exact ih (i + 5) s60 s65 f f61 _ _ _ _ ls (by omega) (by omega) hq hP hM hO hG hS (lv_sub hl [3, 4, 5, 6, 7, 0] rfl)
                · have hq := hq.1 c70
                  refine lv_iconst (v := 0) hx hb d_LW_law_604 (by decide) ?_
                  exact hq.elim
        · have hq := hq.2 c66
          refine lv_iconst (v := 0) hx hb d_LW_law_567 (by decide) ?_
          exact hq.elim
      have hq := hq.2 c58
      by_cases c71 : ((xs (i.toNatClampNeg)) &&& 15) = 6
      · have hq := hq.1 c71
        refine lv_tableIn (tgt := 609) hx hb d_LW_law_44 (by rw [c71]; decide) (by rw [c71]; decide) (by rw [c71]; rfl) (by decide) ?_
        refine lv_aload_n hx hb d_LW_law_609 rfl (lv_at hl 1 rfl) ?_
        refine lv_aload_n hx hb d_LW_law_610 rfl (lv_at hl 0 rfl) ?_
        refine lv_iload hx hb d_LW_law_611 (lv_at hl 5 rfl) ?_
        refine lv_iconst (v := 1) hx hb d_LW_law_613 (by decide) ?_
        refine lv_iadd hx hb d_LW_law_614 ?_
        refine va_sld hx hb hX hbl hbA hS hq.1 d_LW_law_615 ?_
        have hq := hq.2
        refine lv_aload_n hx hb d_LW_law_616 rfl (lv_at hl 0 rfl) ?_
        refine lv_iload hx hb d_LW_law_617 (lv_at hl 5 rfl) ?_
        refine lv_iconst (v := 2) hx hb d_LW_law_619 (by decide) ?_
        refine lv_iadd hx hb d_LW_law_620 ?_
        refine va_sld hx hb hX hbl hbA hS hq.1 d_LW_law_621 ?_
        have hq := hq.2
        refine lv_aload hx hb d_LW_law_622 (lv_at hl 4 rfl) ?_
        refine va_calli (vx_runSW (As := [.ref (ad 0), .int (xs ((i + 1).toNatClampNeg)), .int (xs ((i + 2).toNatClampNeg)), .ref o2]) (rest := []) ⟨hx, hb, hml, hown, htC⟩ (c_LW_element hst (D := D) (cs := cs) (cL := cL) hi hAP.2.2.2.2.1.2 hq) (vx_cwSW 4 htC (good_S wC_650 wC_651 wC_43 wC_652) rfl rfl rfl (by decide +kernel) ⟨(show 7 + 1 ≤ 2048 by decide), (show 8 + (5 + 11) + 112 ≤ 84000 by decide)⟩) ⟨hPre_blind, fun U hU hW => ⟨rfl, by rw [hU]; exact hP.app hG, va_K.moved hW.alike hKL, hN.warm hW, (hXW.to hS hU hW).narrow hAP.A2, hNC.moved hW.alike⟩⟩ rfl rfl hl.1 rfl (lv_room (Nat.le_of_ble_eq_true rfl)) d_LW_law_624 ⟨(show _ + 1 ≤ 600002 by omega), (show _ + 6 ≤ 7302232 by omega)⟩) hS (fun q _ h => hAP.A2 q h) hAP.A2 (fun r72 u t H locs ht0 hvm hq hB hz1 hk1 hS => ?_)
        obtain ⟨s73, f74⟩ := u
        have hB : va_P D clA _ t.heap := hB
        rw [ht0] at hB
        have hM := wd_kept hM hAP.m2 hk1
        have hO := keep_o hO hAP.x2 hk1
        have hG := app_r hB
        have hP := app_l hB
        refine lv_istore (lv' := [(6, .int r72), (0, .ref b), (1, .ref (ad 0)), (2, .ref (am 0)), (3, .ref o1), (4, .ref o2), (5, .int i)]) hx hb d_LW_law_627 hl (by decide) rfl (fun ls hl => ?_)
        refine lv_aload_n hx hb d_LW_law_629 rfl (lv_at hl 3 rfl) ?_
        refine lv_aload_n hx hb d_LW_law_630 rfl (lv_at hl 1 rfl) ?_
        refine lv_iload hx hb d_LW_law_631 (lv_at hl 6 rfl) ?_
        refine lv_iconst (v := 1) hx hb d_LW_law_633 (by decide) ?_
        refine lv_iadd hx hb d_LW_law_634 ?_
        refine va_sld hx hb hX hbl hbA hS hq.1 d_LW_law_635 ?_
        have hq := hq.2
        refine lv_aload_n hx hb d_LW_law_636 rfl (lv_at hl 1 rfl) ?_
        refine lv_iload hx hb d_LW_law_637 (lv_at hl 6 rfl) ?_
        refine lv_iconst (v := 2) hx hb d_LW_law_639 (by decide) ?_
        refine lv_iadd hx hb d_LW_law_640 ?_
        refine va_sld hx hb hX hbl hbA hS hq.1 d_LW_law_641 ?_
        have hq := hq.2
        refine va_calld (va_runV (As := [.int (xs ((i + 1).toNatClampNeg)), .int (xs ((i + 2).toNatClampNeg))]) (rest := []) ⟨hx, hb, hml, hown, htC⟩ (c_MO_element (D := D) (cs := cs) him hq) (cwV 2 htC (good_V wC_927 wC_928 wC_929 wC_50 wC_930) rfl rfl rfl (by decide +kernel) ⟨(show 1 + 1 ≤ 2048 by decide), (show 8 + (4 + 11) + 24 ≤ 84000 by decide)⟩) ⟨mP_blind, va_recv hK hM (ci := 5) (q0 := 0) rfl (wd_at (by decide) rfl), fun U hU hW => ⟨rfl, by rw [hU]; exact hM, va_K.moved hW.alike hK, hN.warm hW⟩⟩ rfl rfl hl.1 rfl (lv_room (Nat.le_of_ble_eq_true rfl)) d_LW_law_642 ⟨(show _ + 0 ≤ 600002 by omega), (show _ + 0 ≤ 7302232 by omega)⟩) hS (fun q _ h => hAP.Am q h) hAP.Am (fun r75 s76 t H locs ht0 hvm hq hB hz1 hk1 hS => ?_)
        obtain ⟨hM, -, -⟩ := hB
        rw [ht0] at hM
        have hP := wd_kept hP hAP.c hk1
        have hO := keep_o hO hAP.2.2.2.2.2.1.1 hk1
        have hG := keep_o hG hAP.2.2.2.2.2.1.2 hk1
        refine lv_dstore (lv' := [(7, .double r75), (6, .int r72), (0, .ref b), (1, .ref (ad 0)), (2, .ref (am 0)), (3, .ref o1), (4, .ref o2), (5, .int i)]) hx hb d_LW_law_645 hl (by decide) rfl (fun ls hl => ?_)
        refine lv_aload_n hx hb d_LW_law_647 rfl (lv_at hl 4 rfl) ?_
        refine va_calli (va_runV (As := []) (rest := []) ⟨hx, hb, hml, hown, htC⟩ (c_MO_thrown (D := D) (cs := cs) him hq) (cwV 0 htC (good_V wC_800 wC_801 wC_802 wC_50 wC_803) rfl rfl rfl (by decide +kernel) ⟨(show 0 + 1 ≤ 2048 by decide), (show 8 + (1 + 11) + 0 ≤ 84000 by decide)⟩) ⟨mP_blind, va_recv hK hM (ci := 5) (q0 := 0) rfl (wd_at (by decide) rfl), fun U hU hW => ⟨rfl, by rw [hU]; exact hM, va_K.moved hW.alike hK, hN.warm hW⟩⟩ rfl rfl hl.1 rfl (lv_room (Nat.le_of_ble_eq_true rfl)) d_LW_law_648 ⟨(show _ + 0 ≤ 600002 by omega), (show _ + 0 ≤ 7302232 by omega)⟩) hS (fun q _ h => hAP.Am q h) hAP.Am (fun r77 s78 t H locs ht0 hvm hq hB hz1 hk1 hS => ?_)
        obtain ⟨hM, -, -⟩ := hB
        rw [ht0] at hM
        have hP := wd_kept hP hAP.c hk1
        have hO := keep_o hO hAP.2.2.2.2.2.1.1 hk1
        have hG := keep_o hG hAP.2.2.2.2.2.1.2 hk1
        refine lv_iload hx hb d_LW_law_651 (lv_at hl 1 rfl) ?_
        refine lv_icmp_eq (tgt := 658) hx hb d_LW_law_653 (by decide) (fun c79 => ?_) (fun c79 => ?_)
        · have hq := hq.1 c79
          refine lv_iload hx hb d_LW_law_658 (lv_at hl 1 rfl) ?_
          refine lv_if_ne (tgt := 695) hx hb d_LW_law_660 (by decide) (fun c80 => ?_) (fun c80 => ?_)
          · have hq := hq.2 c80
            refine lv_goto (tgt := 835) hx hb d_LW_law_695 (by decide) ?_
            refine lv_iinc (v := i + 5) (lv' := [(5, .int (i + 5)), (7, .double r75), (6, .int r72), (0, .ref b), (1, .ref (ad 0)), (2, .ref (am 0)), (3, .ref o1), (4, .ref o2)]) hx hb d_LW_law_835 hl (k := 7) rfl rfl (by decide) rfl (fun ls hl => ?_)
            refine lv_goto (tgt := 28) hx hb d_LW_law_838 (by decide) ?_
            exact ih (i + 5) s73 s78 f f74 _ _ _ _ ls (by omega) (by omega) hq hP hM hO hG hS (lv_sub hl [3, 4, 5, 6, 7, 0] rfl)
          · have hq := hq.1 c80
            refine lv_aload hx hb d_LW_law_663 (lv_at hl 6 rfl) ?_
            refine lv_iconst (v := 0) hx hb d_LW_law_665 (by decide) ?_
            refine va_dald hx hb hKL hG 0 1 rfl rfl (show vp_in _ _ by unfold vp_in; decide) d_LW_law_666 ?_
            refine lv_dload hx hb d_LW_law_667 (lv_at hl 0 rfl) ?_
            refine lv_dcmp hx hb d_LW_law_669 ?_
            refine lv_if_eq (tgt := 695) hx hb d_LW_law_670 (by decide) (fun c81 => ?_) (fun c81 => ?_)
            · have hq := hq.1 c81
              refine lv_goto (tgt := 835) hx hb d_LW_law_695 (by decide) ?_
              refine lv_iinc (v := i + 5) (lv' := [(5, .int (i + 5)), (7, .double r75), (6, .int r72), (0, .ref b), (1, .ref (ad 0)), (2, .ref (am 0)), (3, .ref o1), (4, .ref o2)]) hx hb d_LW_law_835 hl (k := 7) rfl rfl (by decide) rfl (fun ls hl => ?_)
              refine lv_goto (tgt := 28) hx hb d_LW_law_838 (by decide) ?_
              exact ih (i + 5) s73 s78 f f74 _ _ _ _ ls (by omega) (by omega) hq hP hM hO hG hS (lv_sub hl [3, 4, 5, 6, 7, 0] rfl)
            · have hq := hq.2 c81
              refine lv_aload hx hb d_LW_law_673 (lv_at hl 6 rfl) ?_
              refine lv_iconst (v := 0) hx hb d_LW_law_675 (by decide) ?_
              refine va_dald hx hb hKL hG 0 1 rfl rfl (show vp_in _ _ by unfold vp_in; decide) d_LW_law_676 ?_
              refine lv_aload hx hb d_LW_law_677 (lv_at hl 6 rfl) ?_
              refine lv_iconst (v := 0) hx hb d_LW_law_679 (by decide) ?_
              refine va_dald hx hb hKL hG 0 1 rfl rfl (show vp_in _ _ by unfold vp_in; decide) d_LW_law_680 ?_
              refine lv_dcmp hx hb d_LW_law_681 ?_
              refine lv_if_eq (tgt := 693) hx hb d_LW_law_682 (by decide) (fun c82 => ?_) (fun c82 => ?_)
              · have hq := hq.1 c82
                refine lv_iconst (v := 0) hx hb d_LW_law_693 (by decide) ?_
                exact hq.elim
              · have hq := hq.2 c82
                refine lv_dload hx hb d_LW_law_685 (lv_at hl 0 rfl) ?_
                refine lv_dload hx hb d_LW_law_687 (lv_at hl 0 rfl) ?_
                refine lv_dcmp hx hb d_LW_law_689 ?_
                refine lv_if_ne (tgt := 695) hx hb d_LW_law_690 (by decide) (fun c83 => ?_) (fun c83 => ?_)
                · have hq := hq.2 c83
                  refine lv_goto (tgt := 835) hx hb d_LW_law_695 (by decide) ?_
                  refine lv_iinc (v := i + 5) (lv' := [(5, .int (i + 5)), (7, .double r75), (6, .int r72), (0, .ref b), (1, .ref (ad 0)), (2, .ref (am 0)), (3, .ref o1), (4, .ref o2)]) hx hb d_LW_law_835 hl (k := 7) rfl rfl (by decide) rfl (fun ls hl => ?_)
                  refine lv_goto (tgt := 28) hx hb d_LW_law_838 (by decide) ?_
                  exact ih (i + 5) s73 s78 f f74 _ _ _ _ ls (by omega) (by omega) hq hP hM hO hG hS (lv_sub hl [3, 4, 5, 6, 7, 0] rfl)
                · have hq := hq.1 c83
                  refine lv_iconst (v := 0) hx hb d_LW_law_693 (by decide) ?_
                  exact hq.elim
        · have hq := hq.2 c79
          refine lv_iconst (v := 0) hx hb d_LW_law_656 (by decide) ?_
          exact hq.elim
      have hq := hq.2 c71
      by_cases c84 : ((xs (i.toNatClampNeg)) &&& 15) = 7
      · have hq := hq.1 c84
        refine lv_tableIn (tgt := 698) hx hb d_LW_law_44 (by rw [c84]; decide) (by rw [c84]; decide) (by rw [c84]; rfl) (by decide) ?_
        refine lv_aload_n hx hb d_LW_law_698 rfl (lv_at hl 1 rfl) ?_
        refine lv_aload_n hx hb d_LW_law_699 rfl (lv_at hl 0 rfl) ?_
        refine lv_iload hx hb d_LW_law_700 (lv_at hl 5 rfl) ?_
        refine lv_iconst (v := 1) hx hb d_LW_law_702 (by decide) ?_
        refine lv_iadd hx hb d_LW_law_703 ?_
        refine va_sld hx hb hX hbl hbA hS hq.1 d_LW_law_704 ?_
        have hq := hq.2
        refine lv_aload_n hx hb d_LW_law_705 rfl (lv_at hl 0 rfl) ?_
        refine lv_iload hx hb d_LW_law_706 (lv_at hl 5 rfl) ?_
        refine lv_iconst (v := 2) hx hb d_LW_law_708 (by decide) ?_
        refine lv_iadd hx hb d_LW_law_709 ?_
        refine va_sld hx hb hX hbl hbA hS hq.1 d_LW_law_710 ?_
        have hq := hq.2
        refine lv_aload_n hx hb d_LW_law_711 rfl (lv_at hl 3 rfl) ?_
        refine va_calli (vx_runSW (As := [.ref (ad 0), .int (xs ((i + 1).toNatClampNeg)), .int (xs ((i + 2).toNatClampNeg)), .ref o1]) (rest := []) ⟨hx, hb, hml, hown, htC⟩ (c_LW_node hst (D := D) (cs := cs) (cL := cL) hi hAP.2.2.2.2.1.1 hq) (vx_cwSW 4 htC (good_S wC_660 wC_661 wC_43 wC_662) rfl rfl rfl (by decide +kernel) ⟨(show 7 + 1 ≤ 2048 by decide), (show 8 + (5 + 11) + 112 ≤ 84000 by decide)⟩) ⟨hPre_blind, fun U hU hW => ⟨rfl, by rw [hU]; exact hP.app hO, va_K.moved hW.alike hKL, hN.warm hW, (hXW.to hS hU hW).narrow hAP.A1, hNC.moved hW.alike⟩⟩ rfl rfl hl.1 rfl (lv_room (Nat.le_of_ble_eq_true rfl)) d_LW_law_712 ⟨(show _ + 1 ≤ 600002 by omega), (show _ + 6 ≤ 7302232 by omega)⟩) hS (fun q _ h => hAP.A1 q h) hAP.A1 (fun r85 u t H locs ht0 hvm hq hB hz1 hk1 hS => ?_)
        obtain ⟨s86, f87⟩ := u
        have hB : va_P D clA _ t.heap := hB
        rw [ht0] at hB
        have hM := wd_kept hM hAP.m1 hk1
        have hG := keep_o hG hAP.x1 hk1
        have hO := app_r hB
        have hP := app_l hB
        refine lv_istore (lv' := [(6, .int r85), (0, .ref b), (1, .ref (ad 0)), (2, .ref (am 0)), (3, .ref o1), (4, .ref o2), (5, .int i)]) hx hb d_LW_law_715 hl (by decide) rfl (fun ls hl => ?_)
        refine lv_aload_n hx hb d_LW_law_717 rfl (lv_at hl 3 rfl) ?_
        refine lv_aload_n hx hb d_LW_law_718 rfl (lv_at hl 1 rfl) ?_
        refine lv_iload hx hb d_LW_law_719 (lv_at hl 6 rfl) ?_
        refine lv_iconst (v := 1) hx hb d_LW_law_721 (by decide) ?_
        refine lv_iadd hx hb d_LW_law_722 ?_
        refine va_sld hx hb hX hbl hbA hS hq.1 d_LW_law_723 ?_
        have hq := hq.2
        refine lv_aload_n hx hb d_LW_law_724 rfl (lv_at hl 1 rfl) ?_
        refine lv_iload hx hb d_LW_law_725 (lv_at hl 6 rfl) ?_
        refine lv_iconst (v := 2) hx hb d_LW_law_727 (by decide) ?_
        refine lv_iadd hx hb d_LW_law_728 ?_
        refine va_sld hx hb hX hbl hbA hS hq.1 d_LW_law_729 ?_
        have hq := hq.2
        refine va_calli (va_runV (As := [.int (xs ((i + 1).toNatClampNeg)), .int (xs ((i + 2).toNatClampNeg))]) (rest := []) ⟨hx, hb, hml, hown, htC⟩ (c_MO_node (D := D) (cs := cs) him hq) (cwV 2 htC (good_V wC_931 wC_932 wC_933 wC_50 wC_934) rfl rfl rfl (by decide +kernel) ⟨(show 2 + 1 ≤ 2048 by decide), (show 8 + (4 + 11) + 43 ≤ 84000 by decide)⟩) ⟨mP_blind, va_recv hK hM (ci := 5) (q0 := 0) rfl (wd_at (by decide) rfl), fun U hU hW => ⟨rfl, by rw [hU]; exact hM, va_K.moved hW.alike hK, hN.warm hW⟩⟩ rfl rfl hl.1 rfl (lv_room (Nat.le_of_ble_eq_true rfl)) d_LW_law_730 ⟨(show _ + 0 ≤ 600002 by omega), (show _ + 0 ≤ 7302232 by omega)⟩) hS (fun q _ h => hAP.Am q h) hAP.Am (fun r88 s89 t H locs ht0 hvm hq hB hz1 hk1 hS => ?_)
        obtain ⟨hM, -, -⟩ := hB
        rw [ht0] at hM
        have hP := wd_kept hP hAP.c hk1
        have hO := keep_o hO hAP.2.2.2.2.2.1.1 hk1
        have hG := keep_o hG hAP.2.2.2.2.2.1.2 hk1
        refine lv_istore (lv' := [(7, .int r88), (6, .int r85), (0, .ref b), (1, .ref (ad 0)), (2, .ref (am 0)), (3, .ref o1), (4, .ref o2), (5, .int i)]) hx hb d_LW_law_733 hl (by decide) rfl (fun ls hl => ?_)
        refine lv_aload_n hx hb d_LW_law_735 rfl (lv_at hl 4 rfl) ?_
        refine va_calli (va_runV (As := []) (rest := []) ⟨hx, hb, hml, hown, htC⟩ (c_MO_thrown (D := D) (cs := cs) him hq) (cwV 0 htC (good_V wC_800 wC_801 wC_802 wC_50 wC_803) rfl rfl rfl (by decide +kernel) ⟨(show 0 + 1 ≤ 2048 by decide), (show 8 + (1 + 11) + 0 ≤ 84000 by decide)⟩) ⟨mP_blind, va_recv hK hM (ci := 5) (q0 := 0) rfl (wd_at (by decide) rfl), fun U hU hW => ⟨rfl, by rw [hU]; exact hM, va_K.moved hW.alike hK, hN.warm hW⟩⟩ rfl rfl hl.1 rfl (lv_room (Nat.le_of_ble_eq_true rfl)) d_LW_law_736 ⟨(show _ + 0 ≤ 600002 by omega), (show _ + 0 ≤ 7302232 by omega)⟩) hS (fun q _ h => hAP.Am q h) hAP.Am (fun r90 s91 t H locs ht0 hvm hq hB hz1 hk1 hS => ?_)
        obtain ⟨hM, -, -⟩ := hB
        rw [ht0] at hM
        have hP := wd_kept hP hAP.c hk1
        have hO := keep_o hO hAP.2.2.2.2.2.1.1 hk1
        have hG := keep_o hG hAP.2.2.2.2.2.1.2 hk1
        refine lv_iload hx hb d_LW_law_739 (lv_at hl 1 rfl) ?_
        refine lv_icmp_eq (tgt := 746) hx hb d_LW_law_741 (by decide) (fun c92 => ?_) (fun c92 => ?_)
        · have hq := hq.1 c92
          refine lv_iload hx hb d_LW_law_746 (lv_at hl 1 rfl) ?_
          refine lv_if_ne (tgt := 763) hx hb d_LW_law_748 (by decide) (fun c93 => ?_) (fun c93 => ?_)
          · have hq := hq.2 c93
            refine lv_goto (tgt := 835) hx hb d_LW_law_763 (by decide) ?_
            refine lv_iinc (v := i + 5) (lv' := [(5, .int (i + 5)), (7, .int r88), (6, .int r85), (0, .ref b), (1, .ref (ad 0)), (2, .ref (am 0)), (3, .ref o1), (4, .ref o2)]) hx hb d_LW_law_835 hl (k := 7) rfl rfl (by decide) rfl (fun ls hl => ?_)
            refine lv_goto (tgt := 28) hx hb d_LW_law_838 (by decide) ?_
            exact ih (i + 5) s86 s91 f87 g _ _ _ _ ls (by omega) (by omega) hq hP hM hO hG hS (lv_sub hl [3, 4, 5, 6, 7, 0] rfl)
          · have hq := hq.1 c93
            refine lv_aload_n hx hb d_LW_law_751 rfl (lv_at hl 5 rfl) ?_
            refine lv_iconst (v := 0) hx hb d_LW_law_752 (by decide) ?_
            refine va_lald hx hb hKL hO 0 3 rfl rfl (show vp_in _ _ by unfold vp_in; decide) d_LW_law_753 ?_
            refine lv_iload hx hb d_LW_law_754 (lv_at hl 0 rfl) ?_
            refine lv_i2l hx hb d_LW_law_756 rfl ?_
            refine W.lcmp hx hb d_LW_law_757 ?_
            refine lv_if_eq (tgt := 763) hx hb d_LW_law_758 (by decide) (fun c94 => ?_) (fun c94 => ?_)
            · have hq := hq.1 c94
              refine lv_goto (tgt := 835) hx hb d_LW_law_763 (by decide) ?_
              refine lv_iinc (v := i + 5) (lv' := [(5, .int (i + 5)), (7, .int r88), (6, .int r85), (0, .ref b), (1, .ref (ad 0)), (2, .ref (am 0)), (3, .ref o1), (4, .ref o2)]) hx hb d_LW_law_835 hl (k := 7) rfl rfl (by decide) rfl (fun ls hl => ?_)
              refine lv_goto (tgt := 28) hx hb d_LW_law_838 (by decide) ?_
              exact ih (i + 5) s86 s91 f87 g _ _ _ _ ls (by omega) (by omega) hq hP hM hO hG hS (lv_sub hl [3, 4, 5, 6, 7, 0] rfl)
            · have hq := hq.2 c94
              refine lv_iconst (v := 0) hx hb d_LW_law_761 (by decide) ?_
              exact hq.elim
        · have hq := hq.2 c92
          refine lv_iconst (v := 0) hx hb d_LW_law_744 (by decide) ?_
          exact hq.elim
      have hq := hq.2 c84
      by_cases c95 : ((xs (i.toNatClampNeg)) &&& 15) = 8
      · have hq := hq.1 c95
        refine lv_tableIn (tgt := 766) hx hb d_LW_law_44 (by rw [c95]; decide) (by rw [c95]; decide) (by rw [c95]; rfl) (by decide) ?_
        refine lv_aload_n hx hb d_LW_law_766 rfl (lv_at hl 1 rfl) ?_
        refine va_calli (va_runV (As := []) (rest := []) ⟨hx, hb, hml, hown, htC⟩ (c_NF_clear (D := D) (cs := cs) hi hq) (cwV 0 htC (good_V wC_237 wC_238 wC_239 wC_44 wC_240) rfl rfl rfl (by decide +kernel) ⟨(show 2 + 1 ≤ 2048 by decide), (show 8 + (2 + 11) + 43 ≤ 84000 by decide)⟩) ⟨cP_blind, va_recv hK hP (ci := 0) (q0 := 0) rfl (wd_at (by decide) rfl), fun U hU hW => ⟨rfl, by rw [hU]; exact hP, va_K.moved hW.alike hK, hN.warm hW⟩⟩ rfl rfl hl.1 rfl (lv_room (Nat.le_of_ble_eq_true rfl)) d_LW_law_767 ⟨(show _ + 0 ≤ 600002 by omega), (show _ + 0 ≤ 7302232 by omega)⟩) hS (fun q _ h => hAP.Ac q h) hAP.Ac (fun r96 s97 t H locs ht0 hvm hq hB hz1 hk1 hS => ?_)
        obtain ⟨hP, -, -⟩ := hB
        rw [ht0] at hP
        have hM := wd_kept hM hAP.m0 hk1
        have hO := keep_o hO hAP.2.2.2.2.1.1 hk1
        have hG := keep_o hG hAP.2.2.2.2.1.2 hk1
        refine lv_aload_n hx hb d_LW_law_770 rfl (lv_at hl 2 rfl) ?_
        refine va_calli (va_runV (As := []) (rest := [.int r96]) ⟨hx, hb, hml, hown, htC⟩ (c_MO_clear (D := D) (cs := cs) him hq) (cwV 0 htC (good_V wC_935 wC_936 wC_937 wC_50 wC_938) rfl rfl rfl (by decide +kernel) ⟨(show 0 + 1 ≤ 2048 by decide), (show 8 + (3 + 11) + 0 ≤ 84000 by decide)⟩) ⟨mP_blind, va_recv hK hM (ci := 5) (q0 := 0) rfl (wd_at (by decide) rfl), fun U hU hW => ⟨rfl, by rw [hU]; exact hM, va_K.moved hW.alike hK, hN.warm hW⟩⟩ rfl rfl hl.1 rfl (lv_room (Nat.le_of_ble_eq_true rfl)) d_LW_law_771 ⟨(show _ + 0 ≤ 600002 by omega), (show _ + 0 ≤ 7302232 by omega)⟩) hS (fun q _ h => hAP.Am q h) hAP.Am (fun r98 s99 t H locs ht0 hvm hq hB hz1 hk1 hS => ?_)
        obtain ⟨hM, -, -⟩ := hB
        rw [ht0] at hM
        have hP := wd_kept hP hAP.c hk1
        have hO := keep_o hO hAP.2.2.2.2.2.1.1 hk1
        have hG := keep_o hG hAP.2.2.2.2.2.1.2 hk1
        refine lv_icmp_eq (tgt := 835) hx hb d_LW_law_774 (by decide) (fun c100 => ?_) (fun c100 => ?_)
        · have hq := hq.1 c100
          refine lv_iinc (v := i + 5) (lv' := [(5, .int (i + 5)), (0, .ref b), (1, .ref (ad 0)), (2, .ref (am 0)), (3, .ref o1), (4, .ref o2)]) hx hb d_LW_law_835 hl (k := 5) rfl rfl (by decide) rfl (fun ls hl => ?_)
          refine lv_goto (tgt := 28) hx hb d_LW_law_838 (by decide) ?_
          exact ih (i + 5) s97 s99 f g _ _ _ _ ls (by omega) (by omega) hq hP hM hO hG hS (lv_sub hl [1, 2, 3, 4, 5, 0] rfl)
        · have hq := hq.2 c100
          refine lv_iconst (v := 0) hx hb d_LW_law_777 (by decide) ?_
          exact hq.elim
      have hq := hq.2 c95
      by_cases c101 : ((xs (i.toNatClampNeg)) &&& 15) = 9
      · have hq := hq.1 c101
        refine lv_tableIn (tgt := 779) hx hb d_LW_law_44 (by rw [c101]; decide) (by rw [c101]; decide) (by rw [c101]; rfl) (by decide) ?_
        refine lv_aload_n hx hb d_LW_law_779 rfl (lv_at hl 1 rfl) ?_
        refine lv_aload_n hx hb d_LW_law_780 rfl (lv_at hl 0 rfl) ?_
        refine lv_iload hx hb d_LW_law_781 (lv_at hl 5 rfl) ?_
        refine lv_iconst (v := 1) hx hb d_LW_law_783 (by decide) ?_
        refine lv_iadd hx hb d_LW_law_784 ?_
        refine va_sld hx hb hX hbl hbA hS hq.1 d_LW_law_785 ?_
        have hq := hq.2
        refine lv_aload_n hx hb d_LW_law_786 rfl (lv_at hl 3 rfl) ?_
        refine va_calli (vx_runSW (As := [.ref (ad 0), .int (xs ((i + 1).toNatClampNeg)), .ref o1]) (rest := []) ⟨hx, hb, hml, hown, htC⟩ (c_LW_count hst (D := D) (cs := cs) (cL := cL) hi hAP.2.2.2.2.1.1 hq) (vx_cwSW 3 htC (good_S wC_668 wC_669 wC_43 wC_670) rfl rfl rfl (by decide +kernel) ⟨(show 7 + 1 ≤ 2048 by decide), (show 8 + (4 + 11) + 111 ≤ 84000 by decide)⟩) ⟨hPre_blind, fun U hU hW => ⟨rfl, by rw [hU]; exact hP.app hO, va_K.moved hW.alike hKL, hN.warm hW, (hXW.to hS hU hW).narrow hAP.A1, hNC.moved hW.alike⟩⟩ rfl rfl hl.1 rfl (lv_room (Nat.le_of_ble_eq_true rfl)) d_LW_law_787 ⟨(show _ + 1 ≤ 600002 by omega), (show _ + 6 ≤ 7302232 by omega)⟩) hS (fun q _ h => hAP.A1 q h) hAP.A1 (fun r102 u t H locs ht0 hvm hq hB hz1 hk1 hS => ?_)
        obtain ⟨s103, f104⟩ := u
        have hB : va_P D clA _ t.heap := hB
        rw [ht0] at hB
        have hM := wd_kept hM hAP.m1 hk1
        have hG := keep_o hG hAP.x1 hk1
        have hO := app_r hB
        have hP := app_l hB
        refine lv_istore (lv' := [(6, .int r102), (0, .ref b), (1, .ref (ad 0)), (2, .ref (am 0)), (3, .ref o1), (4, .ref o2), (5, .int i)]) hx hb d_LW_law_790 hl (by decide) rfl (fun ls hl => ?_)
        refine lv_aload_n hx hb d_LW_law_792 rfl (lv_at hl 3 rfl) ?_
        refine lv_aload_n hx hb d_LW_law_793 rfl (lv_at hl 1 rfl) ?_
        refine lv_iload hx hb d_LW_law_794 (lv_at hl 6 rfl) ?_
        refine lv_iconst (v := 1) hx hb d_LW_law_796 (by decide) ?_
        refine lv_iadd hx hb d_LW_law_797 ?_
        refine va_sld hx hb hX hbl hbA hS hq.1 d_LW_law_798 ?_
        have hq := hq.2
        refine va_calli (va_runV (As := [.int (xs ((i + 1).toNatClampNeg))]) (rest := []) ⟨hx, hb, hml, hown, htC⟩ (c_MO_count (D := D) (cs := cs) him hq) (cwV 1 htC (good_V wC_939 wC_940 wC_941 wC_50 wC_942) rfl rfl rfl (by decide +kernel) ⟨(show 1 + 1 ≤ 2048 by decide), (show 8 + (2 + 11) + 22 ≤ 84000 by decide)⟩) ⟨mP_blind, va_recv hK hM (ci := 5) (q0 := 0) rfl (wd_at (by decide) rfl), fun U hU hW => ⟨rfl, by rw [hU]; exact hM, va_K.moved hW.alike hK, hN.warm hW⟩⟩ rfl rfl hl.1 rfl (lv_room (Nat.le_of_ble_eq_true rfl)) d_LW_law_799 ⟨(show _ + 0 ≤ 600002 by omega), (show _ + 0 ≤ 7302232 by omega)⟩) hS (fun q _ h => hAP.Am q h) hAP.Am (fun r105 s106 t H locs ht0 hvm hq hB hz1 hk1 hS => ?_)
        obtain ⟨hM, -, -⟩ := hB
        rw [ht0] at hM
        have hP := wd_kept hP hAP.c hk1
        have hO := keep_o hO hAP.2.2.2.2.2.1.1 hk1
        have hG := keep_o hG hAP.2.2.2.2.2.1.2 hk1
        refine lv_istore (lv' := [(7, .int r105), (6, .int r102), (0, .ref b), (1, .ref (ad 0)), (2, .ref (am 0)), (3, .ref o1), (4, .ref o2), (5, .int i)]) hx hb d_LW_law_802 hl (by decide) rfl (fun ls hl => ?_)
        refine lv_aload_n hx hb d_LW_law_804 rfl (lv_at hl 4 rfl) ?_
        refine va_calli (va_runV (As := []) (rest := []) ⟨hx, hb, hml, hown, htC⟩ (c_MO_thrown (D := D) (cs := cs) him hq) (cwV 0 htC (good_V wC_800 wC_801 wC_802 wC_50 wC_803) rfl rfl rfl (by decide +kernel) ⟨(show 0 + 1 ≤ 2048 by decide), (show 8 + (1 + 11) + 0 ≤ 84000 by decide)⟩) ⟨mP_blind, va_recv hK hM (ci := 5) (q0 := 0) rfl (wd_at (by decide) rfl), fun U hU hW => ⟨rfl, by rw [hU]; exact hM, va_K.moved hW.alike hK, hN.warm hW⟩⟩ rfl rfl hl.1 rfl (lv_room (Nat.le_of_ble_eq_true rfl)) d_LW_law_805 ⟨(show _ + 0 ≤ 600002 by omega), (show _ + 0 ≤ 7302232 by omega)⟩) hS (fun q _ h => hAP.Am q h) hAP.Am (fun r107 s108 t H locs ht0 hvm hq hB hz1 hk1 hS => ?_)
        obtain ⟨hM, -, -⟩ := hB
        rw [ht0] at hM
        have hP := wd_kept hP hAP.c hk1
        have hO := keep_o hO hAP.2.2.2.2.2.1.1 hk1
        have hG := keep_o hG hAP.2.2.2.2.2.1.2 hk1
        refine lv_iload hx hb d_LW_law_808 (lv_at hl 1 rfl) ?_
        refine lv_icmp_eq (tgt := 815) hx hb d_LW_law_810 (by decide) (fun c109 => ?_) (fun c109 => ?_)
        · have hq := hq.1 c109
          refine lv_iload hx hb d_LW_law_815 (lv_at hl 1 rfl) ?_
          refine lv_if_ne (tgt := 832) hx hb d_LW_law_817 (by decide) (fun c110 => ?_) (fun c110 => ?_)
          · have hq := hq.2 c110
            refine lv_goto (tgt := 835) hx hb d_LW_law_832 (by decide) ?_
            refine lv_iinc (v := i + 5) (lv' := [(5, .int (i + 5)), (7, .int r105), (6, .int r102), (0, .ref b), (1, .ref (ad 0)), (2, .ref (am 0)), (3, .ref o1), (4, .ref o2)]) hx hb d_LW_law_835 hl (k := 7) rfl rfl (by decide) rfl (fun ls hl => ?_)
            refine lv_goto (tgt := 28) hx hb d_LW_law_838 (by decide) ?_
            exact ih (i + 5) s103 s108 f104 g _ _ _ _ ls (by omega) (by omega) hq hP hM hO hG hS (lv_sub hl [3, 4, 5, 6, 7, 0] rfl)
          · have hq := hq.1 c110
            refine lv_aload_n hx hb d_LW_law_820 rfl (lv_at hl 5 rfl) ?_
            refine lv_iconst (v := 0) hx hb d_LW_law_821 (by decide) ?_
            refine va_lald hx hb hKL hO 0 3 rfl rfl (show vp_in _ _ by unfold vp_in; decide) d_LW_law_822 ?_
            refine lv_iload hx hb d_LW_law_823 (lv_at hl 0 rfl) ?_
            refine lv_i2l hx hb d_LW_law_825 rfl ?_
            refine W.lcmp hx hb d_LW_law_826 ?_
            refine lv_if_eq (tgt := 832) hx hb d_LW_law_827 (by decide) (fun c111 => ?_) (fun c111 => ?_)
            · have hq := hq.1 c111
              refine lv_goto (tgt := 835) hx hb d_LW_law_832 (by decide) ?_
              refine lv_iinc (v := i + 5) (lv' := [(5, .int (i + 5)), (7, .int r105), (6, .int r102), (0, .ref b), (1, .ref (ad 0)), (2, .ref (am 0)), (3, .ref o1), (4, .ref o2)]) hx hb d_LW_law_835 hl (k := 7) rfl rfl (by decide) rfl (fun ls hl => ?_)
              refine lv_goto (tgt := 28) hx hb d_LW_law_838 (by decide) ?_
              exact ih (i + 5) s103 s108 f104 g _ _ _ _ ls (by omega) (by omega) hq hP hM hO hG hS (lv_sub hl [3, 4, 5, 6, 7, 0] rfl)
            · have hq := hq.2 c111
              refine lv_iconst (v := 0) hx hb d_LW_law_830 (by decide) ?_
              exact hq.elim
        · have hq := hq.2 c109
          refine lv_iconst (v := 0) hx hb d_LW_law_813 (by decide) ?_
          exact hq.elim
      have hq := hq.2 c101
      refine cw_tabD (tgt := 835) hx hb d_LW_law_44 (by decide) ?_ ?_
      · have e_c2 := lv_neT c2 (a := 0) rfl; have e_c13 := lv_neT c13 (a := 1) rfl; have e_c21 := lv_neT c21 (a := 2) rfl; have e_c32 := lv_neT c32 (a := 3) rfl; have e_c45 := lv_neT c45 (a := 4) rfl; have e_c58 := lv_neT c58 (a := 5) rfl; have e_c71 := lv_neT c71 (a := 6) rfl; have e_c84 := lv_neT c84 (a := 7) rfl; have e_c95 := lv_neT c95 (a := 8) rfl; have e_c101 := lv_neT c101 (a := 9) rfl
        have g3 : ((xs (i.toNatClampNeg)) &&& 15).toInt < 0 ∨ 9 < ((xs (i.toNatClampNeg)) &&& 15).toInt := by omega
        exact g3.elim Or.inl (fun g => Or.inr (Or.inl g))
      refine lv_iinc (v := i + 5) (lv' := [(5, .int (i + 5)), (0, .ref b), (1, .ref (ad 0)), (2, .ref (am 0)), (3, .ref o1), (4, .ref o2)]) hx hb d_LW_law_835 hl (k := 5) rfl rfl (by decide) rfl (fun ls hl => ?_)
      refine lv_goto (tgt := 28) hx hb d_LW_law_838 (by decide) ?_
      exact ih (i + 5) σ τ f g _ _ _ _ ls (by omega) (by omega) hq hP hM hO hG hS (lv_sub hl [1, 2, 3, 4, 5, 0] rfl)
