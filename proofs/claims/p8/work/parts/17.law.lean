/-! the law's loop -/
theorem wd_kept {D : va_G} {cl : List vw_C} {ad : Nat → Nat} {ct : Nat → va_E} {n : Nat} {H H1 : Heap} {B : Nat → Prop} (h : va_P D cl (wd ad ct n) H) (hn : ∀ k, k < n → ¬ B (ad k)) (hk : ∀ q : Nat, q < H.size → ¬ B q → H1[q]? = H[q]?) : va_P D cl (wd ad ct n) H1 := by
  refine h.kept (fun k q hq => ?_)
  obtain ⟨h1, rfl⟩ := wd_inv hq
  exact hk _ (wd_Pk h h1).lt (hn k h1)
/-- all that the law has made lies apart -/
def AP (ad am : Nat → Nat) (o1 o2 sz : Nat) : Prop := (∀ k, k < 51 → sz ≤ ad k) ∧ (∀ k, k < 25 → sz ≤ am k) ∧ (sz ≤ o1 ∧ sz ≤ o2) ∧ (∀ k, k < 25 → ¬ aK ad 51 (am k)) ∧ (¬ aK ad 51 o1 ∧ ¬ aK ad 51 o2) ∧ (¬ aK am 25 o1 ∧ ¬ aK am 25 o2) ∧ o1 ≠ o2
theorem AP.m0 {ad am : Nat → Nat} {o1 o2 sz : Nat} (h : AP ad am o1 o2 sz) : ∀ k, k < 25 → ¬ aK ad 51 (am k) := h.2.2.2.1
theorem AP.m1 {ad am : Nat → Nat} {o1 o2 sz : Nat} (h : AP ad am o1 o2 sz) : ∀ k, k < 25 → ¬ aO ad o1 (am k) := fun k hk z => z.elim (h.m0 k hk) (fun e => h.2.2.2.2.2.1.1 ⟨k, hk, e.symm⟩)
theorem AP.m2 {ad am : Nat → Nat} {o1 o2 sz : Nat} (h : AP ad am o1 o2 sz) : ∀ k, k < 25 → ¬ aO ad o2 (am k) := fun k hk z => z.elim (h.m0 k hk) (fun e => h.2.2.2.2.2.1.2 ⟨k, hk, e.symm⟩)
theorem AP.c {ad am : Nat → Nat} {o1 o2 sz : Nat} (h : AP ad am o1 o2 sz) : ∀ k, k < 51 → ¬ aK am 25 (ad k) := fun k hk ⟨j, hj, e⟩ => h.m0 j hj ⟨k, hk, e.symm⟩
theorem AP.x1 {ad am : Nat → Nat} {o1 o2 sz : Nat} (h : AP ad am o1 o2 sz) : ¬ aO ad o1 o2 := fun z => z.elim h.2.2.2.2.1.2 (fun e => h.2.2.2.2.2.2 e.symm)
theorem AP.x2 {ad am : Nat → Nat} {o1 o2 sz : Nat} (h : AP ad am o1 o2 sz) : ¬ aO ad o2 o1 := fun z => z.elim h.2.2.2.2.1.1 h.2.2.2.2.2.2
theorem AP.Ac {ad am : Nat → Nat} {o1 o2 sz : Nat} (h : AP ad am o1 o2 sz) : ∀ q, aK ad 51 q → sz ≤ q := fun q ⟨k, hk, e⟩ => by rw [e]; exact h.1 k hk
theorem AP.A1 {ad am : Nat → Nat} {o1 o2 sz : Nat} (h : AP ad am o1 o2 sz) : ∀ q, aO ad o1 q → sz ≤ q := fun q z => z.elim (h.Ac q) (fun e => by rw [e]; exact h.2.2.1.1)
theorem AP.A2 {ad am : Nat → Nat} {o1 o2 sz : Nat} (h : AP ad am o1 o2 sz) : ∀ q, aO ad o2 q → sz ≤ q := fun q z => z.elim (h.Ac q) (fun e => by rw [e]; exact h.2.2.1.2)
theorem AP.Am {ad am : Nat → Nat} {o1 o2 sz : Nat} (h : AP ad am o1 o2 sz) : ∀ q, aK am 25 q → sz ≤ q := fun q ⟨k, hk, e⟩ => by rw [e]; exact h.2.1 k hk
def lp_law (L : Nat) (xs : Nat → Int32) : Nat → Int32 → CS → CS → (Nat → Int64) → (Nat → UInt64) → Prop
  | 0 => fun _ _ _ _ _ => False
  | k + 1 => fun i σ τ f g => ((((Int32.ofNat L) - 5) < i → True) ∧ (¬ ((Int32.ofNat L) - 5) < i → (vp_in i L ∧ ((((xs (i.toNatClampNeg)) &&& 15) = 0 → (vp_in (i + 1) L ∧ (vp_in (i + 2) L ∧ (vp_in (i + 3) L ∧ (vp_in (i + 4) L ∧ (wp_LW_make (xs ((i + 1).toNatClampNeg)) (xs ((i + 2).toNatClampNeg)) (xs ((i + 3).toNatClampNeg)) (xs ((i + 4).toNatClampNeg)) σ f (fun r3 s4 f5 => (vp_in (i + 1) L ∧ (vp_in (i + 2) L ∧ (vp_in (i + 3) L ∧ (vp_in (i + 4) L ∧ (wp_MO_make (xs ((i + 1).toNatClampNeg)) (xs ((i + 2).toNatClampNeg)) (xs ((i + 3).toNatClampNeg)) (xs ((i + 4).toNatClampNeg)) τ (fun r6 s7 => lp_law L xs k (i + 5) s4 s7 f5 g))))))))))))) ∧ (¬ ((xs (i.toNatClampNeg)) &&& 15) = 0 → ((((xs (i.toNatClampNeg)) &&& 15) = 1 → (vp_in (i + 1) L ∧ (vp_in (i + 2) L ∧ (vp_in (i + 3) L ∧ (vp_in (i + 4) L ∧ (wp_LW_procedure (xs ((i + 1).toNatClampNeg)) (xs ((i + 2).toNatClampNeg)) (xs ((i + 3).toNatClampNeg)) (xs ((i + 4).toNatClampNeg)) σ (fun r9 s10 => (vp_in (i + 1) L ∧ (vp_in (i + 2) L ∧ (vp_in (i + 3) L ∧ (vp_in (i + 4) L ∧ (wp_MO_procedure (xs ((i + 1).toNatClampNeg)) (xs ((i + 2).toNatClampNeg)) (xs ((i + 3).toNatClampNeg)) (xs ((i + 4).toNatClampNeg)) τ (fun s12 => lp_law L xs k (i + 5) s10 s12 f g))))))))))))) ∧ (¬ ((xs (i.toNatClampNeg)) &&& 15) = 1 → ((((xs (i.toNatClampNeg)) &&& 15) = 2 → (vp_in (i + 1) L ∧ (vp_in (i + 2) L ∧ (vp_in (i + 3) L ∧ (vp_in (i + 4) L ∧ (wp_LW_bounds (xs ((i + 1).toNatClampNeg)) (xs ((i + 2).toNatClampNeg)) (xs ((i + 3).toNatClampNeg)) (xs ((i + 4).toNatClampNeg)) σ f (fun r14 s15 f16 => (vp_in (i + 1) L ∧ (vp_in (i + 2) L ∧ (vp_in (i + 3) L ∧ (vp_in (i + 4) L ∧ (wp_MO_bounds (xs ((i + 1).toNatClampNeg)) (xs ((i + 2).toNatClampNeg)) (xs ((i + 3).toNatClampNeg)) (xs ((i + 4).toNatClampNeg)) τ (fun r17 s18 => lp_law L xs k (i + 5) s15 s18 f16 g))))))))))))) ∧ (¬ ((xs (i.toNatClampNeg)) &&& 15) = 2 → ((((xs (i.toNatClampNeg)) &&& 15) = 3 → (vp_in (i + 1) L ∧ (vp_in (i + 2) L ∧ (vf_n64 (FP.dmul (FP.i2d (xs ((i + 2).toNatClampNeg))) 4593671619917905920) ∧ (wp_LW_put (xs ((i + 1).toNatClampNeg)) (FP.dmul (FP.i2d (xs ((i + 2).toNatClampNeg))) 4593671619917905920) σ g (fun r20 s21 f22 => (vp_in (i + 1) L ∧ (vp_in (i + 2) L ∧ (vf_n64 (FP.dmul (FP.i2d (xs ((i + 2).toNatClampNeg))) 4593671619917905920) ∧ (wp_MO_put (xs ((i + 1).toNatClampNeg)) (FP.dmul (FP.i2d (xs ((i + 2).toNatClampNeg))) 4593671619917905920) τ (fun r23 s24 => lp_law L xs k (i + 5) s21 s24 f f22))))))))))) ∧ (¬ ((xs (i.toNatClampNeg)) &&& 15) = 3 → ((((xs (i.toNatClampNeg)) &&& 15) = 4 → (vp_in (i + 1) L ∧ (wp_LW_work (xs ((i + 1).toNatClampNeg)) σ g (fun r26 s27 f28 => (vp_in (i + 1) L ∧ (wp_MO_work (xs ((i + 1).toNatClampNeg)) τ (fun r29 s30 => lp_law L xs k (i + 5) s27 s30 f f28))))))) ∧ (¬ ((xs (i.toNatClampNeg)) &&& 15) = 4 → ((((xs (i.toNatClampNeg)) &&& 15) = 5 → (vp_in (i + 1) L ∧ (wp_LW_variable (xs ((i + 1).toNatClampNeg)) σ g (fun r32 s33 f34 => (vp_in (i + 1) L ∧ (wp_MO_variable (xs ((i + 1).toNatClampNeg)) τ (fun r35 s36 => lp_law L xs k (i + 5) s33 s36 f f34))))))) ∧ (¬ ((xs (i.toNatClampNeg)) &&& 15) = 5 → ((((xs (i.toNatClampNeg)) &&& 15) = 6 → (vp_in (i + 1) L ∧ (vp_in (i + 2) L ∧ (wp_LW_element (xs ((i + 1).toNatClampNeg)) (xs ((i + 2).toNatClampNeg)) σ g (fun r38 s39 f40 => (vp_in (i + 1) L ∧ (vp_in (i + 2) L ∧ (wp_MO_element (xs ((i + 1).toNatClampNeg)) (xs ((i + 2).toNatClampNeg)) τ (fun r41 s42 => (wp_MO_thrown  s42 (fun r43 s44 => ((r43 = r38 → ((r38 = 0 → (((Op.cmpValue (FP.dcmp (f40 0) r41) .l) = 0 → lp_law L xs k (i + 5) s39 s44 f f40) ∧ (¬ (Op.cmpValue (FP.dcmp (f40 0) r41) .l) = 0 → (((Op.cmpValue (FP.dcmp (f40 0) (f40 0)) .l) = 0 → False) ∧ (¬ (Op.cmpValue (FP.dcmp (f40 0) (f40 0)) .l) = 0 → (((Op.cmpValue (FP.dcmp r41 r41) .l) = 0 → False) ∧ (¬ (Op.cmpValue (FP.dcmp r41 r41) .l) = 0 → lp_law L xs k (i + 5) s39 s44 f f40))))))) ∧ (¬ r38 = 0 → lp_law L xs k (i + 5) s39 s44 f f40))) ∧ (¬ r43 = r38 → False))))))))))))) ∧ (¬ ((xs (i.toNatClampNeg)) &&& 15) = 6 → ((((xs (i.toNatClampNeg)) &&& 15) = 7 → (vp_in (i + 1) L ∧ (vp_in (i + 2) L ∧ (wp_LW_node (xs ((i + 1).toNatClampNeg)) (xs ((i + 2).toNatClampNeg)) σ f (fun r51 s52 f53 => (vp_in (i + 1) L ∧ (vp_in (i + 2) L ∧ (wp_MO_node (xs ((i + 1).toNatClampNeg)) (xs ((i + 2).toNatClampNeg)) τ (fun r54 s55 => lp_law L xs k (i + 5) s52 s55 f53 g))))))))) ∧ (¬ ((xs (i.toNatClampNeg)) &&& 15) = 7 → ((((xs (i.toNatClampNeg)) &&& 15) = 8 → (wp_NF_clear  σ (fun r57 s58 => (wp_MO_clear  τ (fun r59 s60 => lp_law L xs k (i + 5) s58 s60 f g))))) ∧ (¬ ((xs (i.toNatClampNeg)) &&& 15) = 8 → ((((xs (i.toNatClampNeg)) &&& 15) = 9 → (vp_in (i + 1) L ∧ (wp_LW_count (xs ((i + 1).toNatClampNeg)) σ f (fun r62 s63 f64 => (vp_in (i + 1) L ∧ (wp_MO_count (xs ((i + 1).toNatClampNeg)) τ (fun r65 s66 => lp_law L xs k (i + 5) s63 s66 f64 g))))))) ∧ (¬ ((xs (i.toNatClampNeg)) &&& 15) = 9 → lp_law L xs k (i + 5) σ τ f g)))))))))))))))))))))))
set_option maxHeartbeats 8000000 in
set_option maxRecDepth 100000 in
theorem law_loop {p : Program} {e : Env} {s : State} {m : MethodId} {below : List Frame} {meth : Method} {c : Code} {l : Launch} (hst : l.stackTraces = false) {b L : Nat} {xs : Nat → Int32} {D : va_G} {cs : CI} {cL : ClassId} {ad am : Nat → Nat} {o1 o2 : Nat} (hi : aI ad 51) (him : aI am 25) (hAP : AP ad am o1 o2 s.heap.size) (hx : p.tables.exec = Jvm.exec) (hb : c.code = b_LW_law) (hr : meth.sig.returnType = ret) (hml : c.maxLocals = 9) (hown : s.vm.findClass R_LW = some m.cls) {c0 : Cond} (htC : ∀ w ∈ c0 :: wC, w.before #[Value.ref b] s = true) (hX : va_X b L xs s s.heap) (hbl : b < s.heap.size) (hlocks : meth.locks = false) (hKL : va_K D clA (tyL cs cL) s) (hN : NW s) (hXW : XW (fun q => s.heap.size ≤ q) s) (hNC : NC s) (k : Nat) : ∀ (i : Int32) (σ τ : CS) (f : Nat → Int64) (g : Nat → UInt64) (H : Heap) (locs : List Loc) (cells slots : Nat) (ls : Array Slot), cells + k ≤ 601024 → slots + 6 * k ≤ 7293034 → lp_law L xs k i σ τ f g → va_P D clA (wd ad (cont ad cs σ) 51) H → va_P D clA (wd am (contM am cs τ) 25) H → va_P D clA [(o1, .inl (cL, 1, .inr (.inl f)))] H → va_P D clA [(o2, .inl (cs.2.1, 1, .inr (.inr (.inr (.inl g)))))] H → va_S (fun q => s.heap.size ≤ q) s.heap H locs → lv_has ls 9 [(0, .ref b), (1, .ref (ad 0)), (2, .ref (am 0)), (3, .ref o1), (4, .ref o2), (5, .int i)] → W p l e room_1 s m #[Value.ref b] below meth c H locs cells slots (lw_Z below #[Value.ref b] s) (F0 m 28 ls []) := by
  have hbA : ¬ (fun q : Nat => s.heap.size ≤ q) b := Nat.not_le.mpr hbl
  have hK := hKL.sub (tys' := tyC cs) [0, 1, 2] rfl
  have ht : ∀ w ∈ wC, w.before _ s = true := fun w h => htC w (List.mem_cons_of_mem _ h)
  induction k with
  | zero => intro i σ τ f g H locs cells slots ls _ _ hq; exact hq.elim
  | succ k ih =>
    intro i σ τ f g H locs cells slots ls hc hsl hq hP hM hO hG hS hl
    unfold lp_law at hq
    refine lv_iload hx hb d_LW_law_28 (lv_at hl 5 rfl) ?_
    refine lv_aload_n hx hb d_LW_law_30 rfl (lv_at hl 0 rfl) ?_
    refine va_slen hx hb hX hbl hbA hS d_LW_law_31 ?_
    refine lv_iconst (v := 5) hx hb d_LW_law_32 (by decide) ?_
    refine lv_isub hx hb d_LW_law_33 ?_
    refine lv_icmp_gt (tgt := 574) hx hb d_LW_law_34 (by decide) (fun c1 => ?_) (fun c1 => ?_)
    · have hq := hq.1 c1
      refine lv_iconst (v := 1) hx hb d_LW_law_574 (by decide) ?_
      refine va_forget (fun q h => hS.2.2 q h) ?_
      refine W.widen (k := 601024) (n := 7293034) (by omega) (by omega) ?_
      exact lw_ret hx hb hr hlocks d_LW_law_575
    · have hq := hq.2 c1
      refine lv_aload_n hx hb d_LW_law_37 rfl (lv_at hl 0 rfl) ?_
      refine lv_iload hx hb d_LW_law_38 (lv_at hl 5 rfl) ?_
      refine va_sld hx hb hX hbl hbA hS hq.1 d_LW_law_40 ?_
      have hq := hq.2
      refine lv_bipush (v := 15) hx hb d_LW_law_41 (by decide) ?_
      refine lv_iand hx hb d_LW_law_43 ?_
      by_cases c2 : ((xs (i.toNatClampNeg)) &&& 15) = 0
      · have hq := hq.1 c2
        refine lv_tableIn (tgt := 100) hx hb d_LW_law_44 (by rw [c2]; decide) (by rw [c2]; decide) (by rw [c2]; rfl) (by decide) ?_
        refine lv_aload_n hx hb d_LW_law_100 rfl (lv_at hl 1 rfl) ?_
        refine lv_aload_n hx hb d_LW_law_101 rfl (lv_at hl 0 rfl) ?_
        refine lv_iload hx hb d_LW_law_102 (lv_at hl 5 rfl) ?_
        refine lv_iconst (v := 1) hx hb d_LW_law_104 (by decide) ?_
        refine lv_iadd hx hb d_LW_law_105 ?_
        refine va_sld hx hb hX hbl hbA hS hq.1 d_LW_law_106 ?_
        have hq := hq.2
        refine lv_aload_n hx hb d_LW_law_107 rfl (lv_at hl 0 rfl) ?_
        refine lv_iload hx hb d_LW_law_108 (lv_at hl 5 rfl) ?_
        refine lv_iconst (v := 2) hx hb d_LW_law_110 (by decide) ?_
        refine lv_iadd hx hb d_LW_law_111 ?_
        refine va_sld hx hb hX hbl hbA hS hq.1 d_LW_law_112 ?_
        have hq := hq.2
        refine lv_aload_n hx hb d_LW_law_113 rfl (lv_at hl 0 rfl) ?_
        refine lv_iload hx hb d_LW_law_114 (lv_at hl 5 rfl) ?_
        refine lv_iconst (v := 3) hx hb d_LW_law_116 (by decide) ?_
        refine lv_iadd hx hb d_LW_law_117 ?_
        refine va_sld hx hb hX hbl hbA hS hq.1 d_LW_law_118 ?_
        have hq := hq.2
        refine lv_aload_n hx hb d_LW_law_119 rfl (lv_at hl 0 rfl) ?_
        refine lv_iload hx hb d_LW_law_120 (lv_at hl 5 rfl) ?_
        refine lv_iconst (v := 4) hx hb d_LW_law_122 (by decide) ?_
        refine lv_iadd hx hb d_LW_law_123 ?_
        refine va_sld hx hb hX hbl hbA hS hq.1 d_LW_law_124 ?_
        have hq := hq.2
        refine lv_aload_n hx hb d_LW_law_125 rfl (lv_at hl 3 rfl) ?_
        refine va_calli (vx_runSW (As := [.ref (ad 0), .int (xs ((i + 1).toNatClampNeg)), .int (xs ((i + 2).toNatClampNeg)), .int (xs ((i + 3).toNatClampNeg)), .int (xs ((i + 4).toNatClampNeg)), .ref o1]) (rest := []) ⟨hx, hb, hml, hown, htC⟩ (c_LW_make hst (D := D) (cs := cs) (cL := cL) hi hAP.2.2.2.2.1.1 hq) (vx_cwSW 6 htC (good_S wC_245 wC_246 wC_43 wC_247) rfl rfl rfl (by decide +kernel) ⟨(show 7 + 1 ≤ 2048 by decide), (show 8 + (7 + 11) + 114 ≤ 84000 by decide)⟩) ⟨hPre_blind, fun U hU hW => ⟨rfl, by rw [hU]; exact hP.app hO, va_K.moved hW.alike hKL, hN.warm hW, (hXW.to hS hU hW).narrow hAP.A1, hNC.moved hW.alike⟩⟩ rfl rfl hl.1 rfl (lv_room (Nat.le_of_ble_eq_true rfl)) d_LW_law_126 ⟨(show _ + 1 ≤ 601024 by omega), (show _ + 6 ≤ 7293034 by omega)⟩) hS (fun q _ h => hAP.A1 q h) hAP.A1 (fun r3 u t H locs ht0 hvm hq hB hz1 hk1 hS => ?_)
        obtain ⟨s4, f5⟩ := u
        have hB : va_P D clA _ t.heap := hB
        rw [ht0] at hB
        have hM := wd_kept hM hAP.m1 hk1
        have hG := keep_o hG hAP.x1 hk1
        have hO := app_r hB
        have hP := app_l hB
        refine lv_istore (lv' := [(6, .int r3), (0, .ref b), (1, .ref (ad 0)), (2, .ref (am 0)), (3, .ref o1), (4, .ref o2), (5, .int i)]) hx hb d_LW_law_129 hl (by decide) rfl (fun ls hl => ?_)
        refine lv_aload_n hx hb d_LW_law_131 rfl (lv_at hl 3 rfl) ?_
        refine lv_aload_n hx hb d_LW_law_132 rfl (lv_at hl 1 rfl) ?_
        refine lv_iload hx hb d_LW_law_133 (lv_at hl 6 rfl) ?_
        refine lv_iconst (v := 1) hx hb d_LW_law_135 (by decide) ?_
        refine lv_iadd hx hb d_LW_law_136 ?_
        refine va_sld hx hb hX hbl hbA hS hq.1 d_LW_law_137 ?_
        have hq := hq.2
        refine lv_aload_n hx hb d_LW_law_138 rfl (lv_at hl 1 rfl) ?_
        refine lv_iload hx hb d_LW_law_139 (lv_at hl 6 rfl) ?_
        refine lv_iconst (v := 2) hx hb d_LW_law_141 (by decide) ?_
        refine lv_iadd hx hb d_LW_law_142 ?_
        refine va_sld hx hb hX hbl hbA hS hq.1 d_LW_law_143 ?_
        have hq := hq.2
        refine lv_aload_n hx hb d_LW_law_144 rfl (lv_at hl 1 rfl) ?_
        refine lv_iload hx hb d_LW_law_145 (lv_at hl 6 rfl) ?_
        refine lv_iconst (v := 3) hx hb d_LW_law_147 (by decide) ?_
        refine lv_iadd hx hb d_LW_law_148 ?_
        refine va_sld hx hb hX hbl hbA hS hq.1 d_LW_law_149 ?_
        have hq := hq.2
        refine lv_aload_n hx hb d_LW_law_150 rfl (lv_at hl 1 rfl) ?_
        refine lv_iload hx hb d_LW_law_151 (lv_at hl 6 rfl) ?_
        refine lv_iconst (v := 4) hx hb d_LW_law_153 (by decide) ?_
        refine lv_iadd hx hb d_LW_law_154 ?_
        refine va_sld hx hb hX hbl hbA hS hq.1 d_LW_law_155 ?_
        have hq := hq.2
        refine va_calli (va_runV (As := [.int (xs ((i + 1).toNatClampNeg)), .int (xs ((i + 2).toNatClampNeg)), .int (xs ((i + 3).toNatClampNeg)), .int (xs ((i + 4).toNatClampNeg))]) (rest := []) ⟨hx, hb, hml, hown, htC⟩ (c_MO_make (D := D) (cs := cs) him hq) (cwV 4 htC (good_V wC_804 wC_805 wC_806 wC_50 wC_807) rfl rfl rfl (by decide +kernel) ⟨(show 3 + 1 ≤ 2048 by decide), (show 8 + (7 + 11) + 67 ≤ 84000 by decide)⟩) ⟨mP_blind, va_recv hK hM (ci := 5) (q0 := 0) rfl (wd_at (by decide) rfl), fun U hU hW => ⟨rfl, by rw [hU]; exact hM, va_K.moved hW.alike hK, hN.warm hW⟩⟩ rfl rfl hl.1 rfl (lv_room (Nat.le_of_ble_eq_true rfl)) d_LW_law_156 ⟨(show _ + 0 ≤ 601024 by omega), (show _ + 0 ≤ 7293034 by omega)⟩) hS (fun q _ h => hAP.Am q h) hAP.Am (fun r6 s7 t H locs ht0 hvm hq hB hz1 hk1 hS => ?_)
        obtain ⟨hM, -, -⟩ := hB
        rw [ht0] at hM
        have hP := wd_kept hP hAP.c hk1
        have hO := keep_o hO hAP.2.2.2.2.2.1.1 hk1
        have hG := keep_o hG hAP.2.2.2.2.2.1.2 hk1
        refine lv_istore (lv' := [(7, .int r6), (6, .int r3), (0, .ref b), (1, .ref (ad 0)), (2, .ref (am 0)), (3, .ref o1), (4, .ref o2), (5, .int i)]) hx hb d_LW_law_159 hl (by decide) rfl (fun ls hl => ?_)
        refine lv_goto (tgt := 568) hx hb d_LW_law_161 (by decide) ?_
        refine lv_iinc (v := i + 5) (lv' := [(5, .int (i + 5)), (7, .int r6), (6, .int r3), (0, .ref b), (1, .ref (ad 0)), (2, .ref (am 0)), (3, .ref o1), (4, .ref o2)]) hx hb d_LW_law_568 hl (k := 7) rfl rfl (by decide) rfl (fun ls hl => ?_)
        refine lv_goto (tgt := 28) hx hb d_LW_law_571 (by decide) ?_
        exact ih (i + 5) s4 s7 f5 g _ _ _ _ ls (by omega) (by omega) hq hP hM hO hG hS (lv_sub hl [3, 4, 5, 6, 7, 0] rfl)
      have hq := hq.2 c2
      by_cases c8 : ((xs (i.toNatClampNeg)) &&& 15) = 1
      · have hq := hq.1 c8
        refine lv_tableIn (tgt := 164) hx hb d_LW_law_44 (by rw [c8]; decide) (by rw [c8]; decide) (by rw [c8]; rfl) (by decide) ?_
        refine lv_aload_n hx hb d_LW_law_164 rfl (lv_at hl 1 rfl) ?_
        refine lv_aload_n hx hb d_LW_law_165 rfl (lv_at hl 0 rfl) ?_
        refine lv_iload hx hb d_LW_law_166 (lv_at hl 5 rfl) ?_
        refine lv_iconst (v := 1) hx hb d_LW_law_168 (by decide) ?_
        refine lv_iadd hx hb d_LW_law_169 ?_
        refine va_sld hx hb hX hbl hbA hS hq.1 d_LW_law_170 ?_
        have hq := hq.2
        refine lv_aload_n hx hb d_LW_law_171 rfl (lv_at hl 0 rfl) ?_
        refine lv_iload hx hb d_LW_law_172 (lv_at hl 5 rfl) ?_
        refine lv_iconst (v := 2) hx hb d_LW_law_174 (by decide) ?_
        refine lv_iadd hx hb d_LW_law_175 ?_
        refine va_sld hx hb hX hbl hbA hS hq.1 d_LW_law_176 ?_
        have hq := hq.2
        refine lv_aload_n hx hb d_LW_law_177 rfl (lv_at hl 0 rfl) ?_
        refine lv_iload hx hb d_LW_law_178 (lv_at hl 5 rfl) ?_
        refine lv_iconst (v := 3) hx hb d_LW_law_180 (by decide) ?_
        refine lv_iadd hx hb d_LW_law_181 ?_
        refine va_sld hx hb hX hbl hbA hS hq.1 d_LW_law_182 ?_
        have hq := hq.2
        refine lv_aload_n hx hb d_LW_law_183 rfl (lv_at hl 0 rfl) ?_
        refine lv_iload hx hb d_LW_law_184 (lv_at hl 5 rfl) ?_
        refine lv_iconst (v := 4) hx hb d_LW_law_186 (by decide) ?_
        refine lv_iadd hx hb d_LW_law_187 ?_
        refine va_sld hx hb hX hbl hbA hS hq.1 d_LW_law_188 ?_
        have hq := hq.2
        refine va_calli (vx_runSW (As := [.ref (ad 0), .int (xs ((i + 1).toNatClampNeg)), .int (xs ((i + 2).toNatClampNeg)), .int (xs ((i + 3).toNatClampNeg)), .int (xs ((i + 4).toNatClampNeg))]) (rest := []) ⟨hx, hb, hml, hown, htC⟩ (c_LW_procedure hst (D := D) (cs := cs) (cL := cL) hi hq) (vx_cwSW 5 htC (good_S wC_366 wC_367 wC_43 wC_368) rfl rfl rfl (by decide +kernel) ⟨(show 7 + 1 ≤ 2048 by decide), (show 8 + (6 + 11) + 114 ≤ 84000 by decide)⟩) ⟨hPre_blind, fun U hU hW => ⟨rfl, by rw [hU]; exact hP, va_K.moved hW.alike hKL, hN.warm hW, (hXW.to hS hU hW).narrow hAP.Ac, hNC.moved hW.alike⟩⟩ rfl rfl hl.1 rfl (lv_room (Nat.le_of_ble_eq_true rfl)) d_LW_law_189 ⟨(show _ + 1 ≤ 601024 by omega), (show _ + 6 ≤ 7293034 by omega)⟩) hS (fun q _ h => hAP.Ac q h) hAP.Ac (fun r9 u t H locs ht0 hvm hq hB hz1 hk1 hS => ?_)
        obtain ⟨s10, hu9⟩ : ∃ z, z = u := ⟨_, rfl⟩
        rw [← hu9] at hB hq
        have hB : va_P D clA _ t.heap := hB
        rw [ht0] at hB
        have hM := wd_kept hM hAP.m0 hk1
        have hO := keep_o hO hAP.2.2.2.2.1.1 hk1
        have hG := keep_o hG hAP.2.2.2.2.1.2 hk1
        have hP := hB
        refine lv_istore (lv' := [(6, .int r9), (0, .ref b), (1, .ref (ad 0)), (2, .ref (am 0)), (3, .ref o1), (4, .ref o2), (5, .int i)]) hx hb d_LW_law_192 hl (by decide) rfl (fun ls hl => ?_)
        refine lv_aload_n hx hb d_LW_law_194 rfl (lv_at hl 3 rfl) ?_
        refine lv_aload_n hx hb d_LW_law_195 rfl (lv_at hl 1 rfl) ?_
        refine lv_iload hx hb d_LW_law_196 (lv_at hl 6 rfl) ?_
        refine lv_iconst (v := 1) hx hb d_LW_law_198 (by decide) ?_
        refine lv_iadd hx hb d_LW_law_199 ?_
        refine va_sld hx hb hX hbl hbA hS hq.1 d_LW_law_200 ?_
        have hq := hq.2
        refine lv_aload_n hx hb d_LW_law_201 rfl (lv_at hl 1 rfl) ?_
        refine lv_iload hx hb d_LW_law_202 (lv_at hl 6 rfl) ?_
        refine lv_iconst (v := 2) hx hb d_LW_law_204 (by decide) ?_
        refine lv_iadd hx hb d_LW_law_205 ?_
        refine va_sld hx hb hX hbl hbA hS hq.1 d_LW_law_206 ?_
        have hq := hq.2
        refine lv_aload_n hx hb d_LW_law_207 rfl (lv_at hl 1 rfl) ?_
        refine lv_iload hx hb d_LW_law_208 (lv_at hl 6 rfl) ?_
        refine lv_iconst (v := 3) hx hb d_LW_law_210 (by decide) ?_
        refine lv_iadd hx hb d_LW_law_211 ?_
        refine va_sld hx hb hX hbl hbA hS hq.1 d_LW_law_212 ?_
        have hq := hq.2
        refine lv_aload_n hx hb d_LW_law_213 rfl (lv_at hl 1 rfl) ?_
        refine lv_iload hx hb d_LW_law_214 (lv_at hl 6 rfl) ?_
        refine lv_iconst (v := 4) hx hb d_LW_law_216 (by decide) ?_
        refine lv_iadd hx hb d_LW_law_217 ?_
        refine va_sld hx hb hX hbl hbA hS hq.1 d_LW_law_218 ?_
        have hq := hq.2
        refine va_callv (va_runV (As := [.int (xs ((i + 1).toNatClampNeg)), .int (xs ((i + 2).toNatClampNeg)), .int (xs ((i + 3).toNatClampNeg)), .int (xs ((i + 4).toNatClampNeg))]) (rest := []) ⟨hx, hb, hml, hown, htC⟩ (c_MO_procedure (D := D) (cs := cs) him hq) (cwV 4 htC (good_V wC_823 wC_824 wC_825 wC_50 wC_826) rfl rfl rfl (by decide +kernel) ⟨(show 2 + 1 ≤ 2048 by decide), (show 8 + (5 + 11) + 43 ≤ 84000 by decide)⟩) ⟨mP_blind, va_recv hK hM (ci := 5) (q0 := 0) rfl (wd_at (by decide) rfl), fun U hU hW => ⟨rfl, by rw [hU]; exact hM, va_K.moved hW.alike hK, hN.warm hW⟩⟩ rfl rfl hl.1 rfl (lv_room (Nat.le_of_ble_eq_true rfl)) d_LW_law_219 ⟨(show _ + 0 ≤ 601024 by omega), (show _ + 0 ≤ 7293034 by omega)⟩) hS (fun q _ h => hAP.Am q h) hAP.Am (fun s12 t H locs ht0 hvm hq hB hz1 hk1 hS => ?_)
        obtain ⟨hM, -, -⟩ := hB
        rw [ht0] at hM
        have hP := wd_kept hP hAP.c hk1
        have hO := keep_o hO hAP.2.2.2.2.2.1.1 hk1
        have hG := keep_o hG hAP.2.2.2.2.2.1.2 hk1
        refine lv_goto (tgt := 568) hx hb d_LW_law_222 (by decide) ?_
        refine lv_iinc (v := i + 5) (lv' := [(5, .int (i + 5)), (6, .int r9), (0, .ref b), (1, .ref (ad 0)), (2, .ref (am 0)), (3, .ref o1), (4, .ref o2)]) hx hb d_LW_law_568 hl (k := 6) rfl rfl (by decide) rfl (fun ls hl => ?_)
        refine lv_goto (tgt := 28) hx hb d_LW_law_571 (by decide) ?_
        exact ih (i + 5) s10 s12 f g _ _ _ _ ls (by omega) (by omega) hq hP hM hO hG hS (lv_sub hl [2, 3, 4, 5, 6, 0] rfl)
      have hq := hq.2 c8
      by_cases c13 : ((xs (i.toNatClampNeg)) &&& 15) = 2
      · have hq := hq.1 c13
        refine lv_tableIn (tgt := 225) hx hb d_LW_law_44 (by rw [c13]; decide) (by rw [c13]; decide) (by rw [c13]; rfl) (by decide) ?_
        refine lv_aload_n hx hb d_LW_law_225 rfl (lv_at hl 1 rfl) ?_
        refine lv_aload_n hx hb d_LW_law_226 rfl (lv_at hl 0 rfl) ?_
        refine lv_iload hx hb d_LW_law_227 (lv_at hl 5 rfl) ?_
        refine lv_iconst (v := 1) hx hb d_LW_law_229 (by decide) ?_
        refine lv_iadd hx hb d_LW_law_230 ?_
        refine va_sld hx hb hX hbl hbA hS hq.1 d_LW_law_231 ?_
        have hq := hq.2
        refine lv_aload_n hx hb d_LW_law_232 rfl (lv_at hl 0 rfl) ?_
        refine lv_iload hx hb d_LW_law_233 (lv_at hl 5 rfl) ?_
        refine lv_iconst (v := 2) hx hb d_LW_law_235 (by decide) ?_
        refine lv_iadd hx hb d_LW_law_236 ?_
        refine va_sld hx hb hX hbl hbA hS hq.1 d_LW_law_237 ?_
        have hq := hq.2
        refine lv_aload_n hx hb d_LW_law_238 rfl (lv_at hl 0 rfl) ?_
        refine lv_iload hx hb d_LW_law_239 (lv_at hl 5 rfl) ?_
        refine lv_iconst (v := 3) hx hb d_LW_law_241 (by decide) ?_
        refine lv_iadd hx hb d_LW_law_242 ?_
        refine va_sld hx hb hX hbl hbA hS hq.1 d_LW_law_243 ?_
        have hq := hq.2
        refine lv_aload_n hx hb d_LW_law_244 rfl (lv_at hl 0 rfl) ?_
        refine lv_iload hx hb d_LW_law_245 (lv_at hl 5 rfl) ?_
        refine lv_iconst (v := 4) hx hb d_LW_law_247 (by decide) ?_
        refine lv_iadd hx hb d_LW_law_248 ?_
        refine va_sld hx hb hX hbl hbA hS hq.1 d_LW_law_249 ?_
        have hq := hq.2
        refine lv_aload_n hx hb d_LW_law_250 rfl (lv_at hl 3 rfl) ?_
        refine va_calli (vx_runSW (As := [.ref (ad 0), .int (xs ((i + 1).toNatClampNeg)), .int (xs ((i + 2).toNatClampNeg)), .int (xs ((i + 3).toNatClampNeg)), .int (xs ((i + 4).toNatClampNeg)), .ref o1]) (rest := []) ⟨hx, hb, hml, hown, htC⟩ (c_LW_bounds hst (D := D) (cs := cs) (cL := cL) hi hAP.2.2.2.2.1.1 hq) (vx_cwSW 6 htC (good_S wC_380 wC_381 wC_43 wC_382) rfl rfl rfl (by decide +kernel) ⟨(show 7 + 1 ≤ 2048 by decide), (show 8 + (7 + 11) + 114 ≤ 84000 by decide)⟩) ⟨hPre_blind, fun U hU hW => ⟨rfl, by rw [hU]; exact hP.app hO, va_K.moved hW.alike hKL, hN.warm hW, (hXW.to hS hU hW).narrow hAP.A1, hNC.moved hW.alike⟩⟩ rfl rfl hl.1 rfl (lv_room (Nat.le_of_ble_eq_true rfl)) d_LW_law_251 ⟨(show _ + 1 ≤ 601024 by omega), (show _ + 6 ≤ 7293034 by omega)⟩) hS (fun q _ h => hAP.A1 q h) hAP.A1 (fun r14 u t H locs ht0 hvm hq hB hz1 hk1 hS => ?_)
        obtain ⟨s15, f16⟩ := u
        have hB : va_P D clA _ t.heap := hB
        rw [ht0] at hB
        have hM := wd_kept hM hAP.m1 hk1
        have hG := keep_o hG hAP.x1 hk1
        have hO := app_r hB
        have hP := app_l hB
        refine lv_istore (lv' := [(6, .int r14), (0, .ref b), (1, .ref (ad 0)), (2, .ref (am 0)), (3, .ref o1), (4, .ref o2), (5, .int i)]) hx hb d_LW_law_254 hl (by decide) rfl (fun ls hl => ?_)
        refine lv_aload_n hx hb d_LW_law_256 rfl (lv_at hl 3 rfl) ?_
        refine lv_aload_n hx hb d_LW_law_257 rfl (lv_at hl 1 rfl) ?_
        refine lv_iload hx hb d_LW_law_258 (lv_at hl 6 rfl) ?_
        refine lv_iconst (v := 1) hx hb d_LW_law_260 (by decide) ?_
        refine lv_iadd hx hb d_LW_law_261 ?_
        refine va_sld hx hb hX hbl hbA hS hq.1 d_LW_law_262 ?_
        have hq := hq.2
        refine lv_aload_n hx hb d_LW_law_263 rfl (lv_at hl 1 rfl) ?_
        refine lv_iload hx hb d_LW_law_264 (lv_at hl 6 rfl) ?_
        refine lv_iconst (v := 2) hx hb d_LW_law_266 (by decide) ?_
        refine lv_iadd hx hb d_LW_law_267 ?_
        refine va_sld hx hb hX hbl hbA hS hq.1 d_LW_law_268 ?_
        have hq := hq.2
        refine lv_aload_n hx hb d_LW_law_269 rfl (lv_at hl 1 rfl) ?_
        refine lv_iload hx hb d_LW_law_270 (lv_at hl 6 rfl) ?_
        refine lv_iconst (v := 3) hx hb d_LW_law_272 (by decide) ?_
        refine lv_iadd hx hb d_LW_law_273 ?_
        refine va_sld hx hb hX hbl hbA hS hq.1 d_LW_law_274 ?_
        have hq := hq.2
        refine lv_aload_n hx hb d_LW_law_275 rfl (lv_at hl 1 rfl) ?_
        refine lv_iload hx hb d_LW_law_276 (lv_at hl 6 rfl) ?_
        refine lv_iconst (v := 4) hx hb d_LW_law_278 (by decide) ?_
        refine lv_iadd hx hb d_LW_law_279 ?_
        refine va_sld hx hb hX hbl hbA hS hq.1 d_LW_law_280 ?_
        have hq := hq.2
        refine va_calli (va_runV (As := [.int (xs ((i + 1).toNatClampNeg)), .int (xs ((i + 2).toNatClampNeg)), .int (xs ((i + 3).toNatClampNeg)), .int (xs ((i + 4).toNatClampNeg))]) (rest := []) ⟨hx, hb, hml, hown, htC⟩ (c_MO_bounds (D := D) (cs := cs) him hq) (cwV 4 htC (good_V wC_827 wC_828 wC_829 wC_50 wC_830) rfl rfl rfl (by decide +kernel) ⟨(show 2 + 1 ≤ 2048 by decide), (show 8 + (6 + 11) + 43 ≤ 84000 by decide)⟩) ⟨mP_blind, va_recv hK hM (ci := 5) (q0 := 0) rfl (wd_at (by decide) rfl), fun U hU hW => ⟨rfl, by rw [hU]; exact hM, va_K.moved hW.alike hK, hN.warm hW⟩⟩ rfl rfl hl.1 rfl (lv_room (Nat.le_of_ble_eq_true rfl)) d_LW_law_281 ⟨(show _ + 0 ≤ 601024 by omega), (show _ + 0 ≤ 7293034 by omega)⟩) hS (fun q _ h => hAP.Am q h) hAP.Am (fun r17 s18 t H locs ht0 hvm hq hB hz1 hk1 hS => ?_)
        obtain ⟨hM, -, -⟩ := hB
        rw [ht0] at hM
        have hP := wd_kept hP hAP.c hk1
        have hO := keep_o hO hAP.2.2.2.2.2.1.1 hk1
        have hG := keep_o hG hAP.2.2.2.2.2.1.2 hk1
        refine lv_istore (lv' := [(7, .int r17), (6, .int r14), (0, .ref b), (1, .ref (ad 0)), (2, .ref (am 0)), (3, .ref o1), (4, .ref o2), (5, .int i)]) hx hb d_LW_law_284 hl (by decide) rfl (fun ls hl => ?_)
        refine lv_goto (tgt := 568) hx hb d_LW_law_286 (by decide) ?_
        refine lv_iinc (v := i + 5) (lv' := [(5, .int (i + 5)), (7, .int r17), (6, .int r14), (0, .ref b), (1, .ref (ad 0)), (2, .ref (am 0)), (3, .ref o1), (4, .ref o2)]) hx hb d_LW_law_568 hl (k := 7) rfl rfl (by decide) rfl (fun ls hl => ?_)
        refine lv_goto (tgt := 28) hx hb d_LW_law_571 (by decide) ?_
        exact ih (i + 5) s15 s18 f16 g _ _ _ _ ls (by omega) (by omega) hq hP hM hO hG hS (lv_sub hl [3, 4, 5, 6, 7, 0] rfl)
      have hq := hq.2 c13
      by_cases c19 : ((xs (i.toNatClampNeg)) &&& 15) = 3
      · have hq := hq.1 c19
        refine lv_tableIn (tgt := 289) hx hb d_LW_law_44 (by rw [c19]; decide) (by rw [c19]; decide) (by rw [c19]; rfl) (by decide) ?_
        refine lv_aload_n hx hb d_LW_law_289 rfl (lv_at hl 1 rfl) ?_
        refine lv_aload_n hx hb d_LW_law_290 rfl (lv_at hl 0 rfl) ?_
        refine lv_iload hx hb d_LW_law_291 (lv_at hl 5 rfl) ?_
        refine lv_iconst (v := 1) hx hb d_LW_law_293 (by decide) ?_
        refine lv_iadd hx hb d_LW_law_294 ?_
        refine va_sld hx hb hX hbl hbA hS hq.1 d_LW_law_295 ?_
        have hq := hq.2
        refine lv_aload_n hx hb d_LW_law_296 rfl (lv_at hl 0 rfl) ?_
        refine lv_iload hx hb d_LW_law_297 (lv_at hl 5 rfl) ?_
        refine lv_iconst (v := 2) hx hb d_LW_law_299 (by decide) ?_
        refine lv_iadd hx hb d_LW_law_300 ?_
        refine va_sld hx hb hX hbl hbA hS hq.1 d_LW_law_301 ?_
        have hq := hq.2
        refine lv_i2d hx hb d_LW_law_302 ?_
        refine lv_ldc2d hx hb hown (ht _ wC_943) d_LW_law_303 ?_
        refine lv_dmul hx hb d_LW_law_306 hq.1 ?_
        have hq := hq.2
        refine lv_aload hx hb d_LW_law_307 (lv_at hl 4 rfl) ?_
        refine va_calli (vx_runSW (As := [.ref (ad 0), .int (xs ((i + 1).toNatClampNeg)), .double (FP.dmul (FP.i2d (xs ((i + 2).toNatClampNeg))) 4593671619917905920), .ref o2]) (rest := []) ⟨hx, hb, hml, hown, htC⟩ (c_LW_put hst (D := D) (cs := cs) (cL := cL) hi hAP.2.2.2.2.1.2 hq) (vx_cwSW 4 htC (good_S wC_402 wC_403 wC_43 wC_404) rfl rfl rfl (by decide +kernel) ⟨(show 7 + 1 ≤ 2048 by decide), (show 8 + (6 + 11) + 115 ≤ 84000 by decide)⟩) ⟨hPre_blind, fun U hU hW => ⟨rfl, by rw [hU]; exact hP.app hG, va_K.moved hW.alike hKL, hN.warm hW, (hXW.to hS hU hW).narrow hAP.A2, hNC.moved hW.alike⟩⟩ rfl rfl hl.1 rfl (lv_room (Nat.le_of_ble_eq_true rfl)) d_LW_law_309 ⟨(show _ + 1 ≤ 601024 by omega), (show _ + 6 ≤ 7293034 by omega)⟩) hS (fun q _ h => hAP.A2 q h) hAP.A2 (fun r20 u t H locs ht0 hvm hq hB hz1 hk1 hS => ?_)
        obtain ⟨s21, f22⟩ := u
        have hB : va_P D clA _ t.heap := hB
        rw [ht0] at hB
        have hM := wd_kept hM hAP.m2 hk1
        have hO := keep_o hO hAP.x2 hk1
        have hG := app_r hB
        have hP := app_l hB
        refine lv_istore (lv' := [(6, .int r20), (0, .ref b), (1, .ref (ad 0)), (2, .ref (am 0)), (3, .ref o1), (4, .ref o2), (5, .int i)]) hx hb d_LW_law_312 hl (by decide) rfl (fun ls hl => ?_)
        refine lv_aload_n hx hb d_LW_law_314 rfl (lv_at hl 3 rfl) ?_
        refine lv_aload_n hx hb d_LW_law_315 rfl (lv_at hl 1 rfl) ?_
        refine lv_iload hx hb d_LW_law_316 (lv_at hl 6 rfl) ?_
        refine lv_iconst (v := 1) hx hb d_LW_law_318 (by decide) ?_
        refine lv_iadd hx hb d_LW_law_319 ?_
        refine va_sld hx hb hX hbl hbA hS hq.1 d_LW_law_320 ?_
        have hq := hq.2
        refine lv_aload_n hx hb d_LW_law_321 rfl (lv_at hl 1 rfl) ?_
        refine lv_iload hx hb d_LW_law_322 (lv_at hl 6 rfl) ?_
        refine lv_iconst (v := 2) hx hb d_LW_law_324 (by decide) ?_
        refine lv_iadd hx hb d_LW_law_325 ?_
        refine va_sld hx hb hX hbl hbA hS hq.1 d_LW_law_326 ?_
        have hq := hq.2
        refine lv_i2d hx hb d_LW_law_327 ?_
        refine lv_ldc2d hx hb hown (ht _ wC_943) d_LW_law_328 ?_
        refine lv_dmul hx hb d_LW_law_331 hq.1 ?_
        have hq := hq.2
        refine va_calld (va_runV (As := [.int (xs ((i + 1).toNatClampNeg)), .double (FP.dmul (FP.i2d (xs ((i + 2).toNatClampNeg))) 4593671619917905920)]) (rest := []) ⟨hx, hb, hml, hown, htC⟩ (c_MO_put (D := D) (cs := cs) him hq) (cwV 2 htC (good_V wC_834 wC_835 wC_836 wC_50 wC_837) rfl rfl rfl (by decide +kernel) ⟨(show 1 + 1 ≤ 2048 by decide), (show 8 + (6 + 11) + 25 ≤ 84000 by decide)⟩) ⟨mP_blind, va_recv hK hM (ci := 5) (q0 := 0) rfl (wd_at (by decide) rfl), fun U hU hW => ⟨rfl, by rw [hU]; exact hM, va_K.moved hW.alike hK, hN.warm hW⟩⟩ rfl rfl hl.1 rfl (lv_room (Nat.le_of_ble_eq_true rfl)) d_LW_law_332 ⟨(show _ + 0 ≤ 601024 by omega), (show _ + 0 ≤ 7293034 by omega)⟩) hS (fun q _ h => hAP.Am q h) hAP.Am (fun r23 s24 t H locs ht0 hvm hq hB hz1 hk1 hS => ?_)
        obtain ⟨hM, -, -⟩ := hB
        rw [ht0] at hM
        have hP := wd_kept hP hAP.c hk1
        have hO := keep_o hO hAP.2.2.2.2.2.1.1 hk1
        have hG := keep_o hG hAP.2.2.2.2.2.1.2 hk1
        refine lv_dstore (lv' := [(7, .double r23), (6, .int r20), (0, .ref b), (1, .ref (ad 0)), (2, .ref (am 0)), (3, .ref o1), (4, .ref o2), (5, .int i)]) hx hb d_LW_law_335 hl (by decide) rfl (fun ls hl => ?_)
        refine lv_goto (tgt := 568) hx hb d_LW_law_337 (by decide) ?_
        refine lv_iinc (v := i + 5) (lv' := [(5, .int (i + 5)), (7, .double r23), (6, .int r20), (0, .ref b), (1, .ref (ad 0)), (2, .ref (am 0)), (3, .ref o1), (4, .ref o2)]) hx hb d_LW_law_568 hl (k := 7) rfl rfl (by decide) rfl (fun ls hl => ?_)
        refine lv_goto (tgt := 28) hx hb d_LW_law_571 (by decide) ?_
        exact ih (i + 5) s21 s24 f f22 _ _ _ _ ls (by omega) (by omega) hq hP hM hO hG hS (lv_sub hl [3, 4, 5, 6, 7, 0] rfl)
      have hq := hq.2 c19
      by_cases c25 : ((xs (i.toNatClampNeg)) &&& 15) = 4
      · have hq := hq.1 c25
        refine lv_tableIn (tgt := 340) hx hb d_LW_law_44 (by rw [c25]; decide) (by rw [c25]; decide) (by rw [c25]; rfl) (by decide) ?_
        refine lv_aload_n hx hb d_LW_law_340 rfl (lv_at hl 1 rfl) ?_
        refine lv_aload_n hx hb d_LW_law_341 rfl (lv_at hl 0 rfl) ?_
        refine lv_iload hx hb d_LW_law_342 (lv_at hl 5 rfl) ?_
        refine lv_iconst (v := 1) hx hb d_LW_law_344 (by decide) ?_
        refine lv_iadd hx hb d_LW_law_345 ?_
        refine va_sld hx hb hX hbl hbA hS hq.1 d_LW_law_346 ?_
        have hq := hq.2
        refine lv_aload hx hb d_LW_law_347 (lv_at hl 4 rfl) ?_
        refine va_calli (vx_runSW (As := [.ref (ad 0), .int (xs ((i + 1).toNatClampNeg)), .ref o2]) (rest := []) ⟨hx, hb, hml, hown, htC⟩ (c_LW_work hst (D := D) (cs := cs) (cL := cL) hi hAP.2.2.2.2.1.2 hq) (vx_cwSW 3 htC (good_S wC_423 wC_424 wC_43 wC_425) rfl rfl rfl (by decide +kernel) ⟨(show 1628 + 1 ≤ 2048 by decide), (show 8 + (4 + 11) + 46662 ≤ 84000 by decide)⟩) ⟨hPre_blind, fun U hU hW => ⟨rfl, by rw [hU]; exact hP.app hG, va_K.moved hW.alike hKL, hN.warm hW, (hXW.to hS hU hW).narrow hAP.A2, hNC.moved hW.alike⟩⟩ rfl rfl hl.1 rfl (lv_room (Nat.le_of_ble_eq_true rfl)) d_LW_law_349 ⟨(show _ + 1 ≤ 601024 by omega), (show _ + 6 ≤ 7293034 by omega)⟩) hS (fun q _ h => hAP.A2 q h) hAP.A2 (fun r26 u t H locs ht0 hvm hq hB hz1 hk1 hS => ?_)
        obtain ⟨s27, f28⟩ := u
        have hB : va_P D clA _ t.heap := hB
        rw [ht0] at hB
        have hM := wd_kept hM hAP.m2 hk1
        have hO := keep_o hO hAP.x2 hk1
        have hG := app_r hB
        have hP := app_l hB
        refine lv_istore (lv' := [(6, .int r26), (0, .ref b), (1, .ref (ad 0)), (2, .ref (am 0)), (3, .ref o1), (4, .ref o2), (5, .int i)]) hx hb d_LW_law_352 hl (by decide) rfl (fun ls hl => ?_)
        refine lv_aload_n hx hb d_LW_law_354 rfl (lv_at hl 3 rfl) ?_
        refine lv_aload_n hx hb d_LW_law_355 rfl (lv_at hl 1 rfl) ?_
        refine lv_iload hx hb d_LW_law_356 (lv_at hl 6 rfl) ?_
        refine lv_iconst (v := 1) hx hb d_LW_law_358 (by decide) ?_
        refine lv_iadd hx hb d_LW_law_359 ?_
        refine va_sld hx hb hX hbl hbA hS hq.1 d_LW_law_360 ?_
        have hq := hq.2
        refine va_calld (va_runV (As := [.int (xs ((i + 1).toNatClampNeg))]) (rest := []) ⟨hx, hb, hml, hown, htC⟩ (c_MO_work (D := D) (cs := cs) him hq) (cwV 1 htC (good_V wC_847 wC_848 wC_849 wC_50 wC_850) rfl rfl rfl (by decide +kernel) ⟨(show 5 + 1 ≤ 2048 by decide), (show 8 + (3 + 11) + 112 ≤ 84000 by decide)⟩) ⟨mP_blind, va_recv hK hM (ci := 5) (q0 := 0) rfl (wd_at (by decide) rfl), fun U hU hW => ⟨rfl, by rw [hU]; exact hM, va_K.moved hW.alike hK, hN.warm hW⟩⟩ rfl rfl hl.1 rfl (lv_room (Nat.le_of_ble_eq_true rfl)) d_LW_law_361 ⟨(show _ + 0 ≤ 601024 by omega), (show _ + 0 ≤ 7293034 by omega)⟩) hS (fun q _ h => hAP.Am q h) hAP.Am (fun r29 s30 t H locs ht0 hvm hq hB hz1 hk1 hS => ?_)
        obtain ⟨hM, -, -⟩ := hB
        rw [ht0] at hM
        have hP := wd_kept hP hAP.c hk1
        have hO := keep_o hO hAP.2.2.2.2.2.1.1 hk1
        have hG := keep_o hG hAP.2.2.2.2.2.1.2 hk1
        refine lv_dstore (lv' := [(7, .double r29), (6, .int r26), (0, .ref b), (1, .ref (ad 0)), (2, .ref (am 0)), (3, .ref o1), (4, .ref o2), (5, .int i)]) hx hb d_LW_law_364 hl (by decide) rfl (fun ls hl => ?_)
        refine lv_goto (tgt := 568) hx hb d_LW_law_366 (by decide) ?_
        refine lv_iinc (v := i + 5) (lv' := [(5, .int (i + 5)), (7, .double r29), (6, .int r26), (0, .ref b), (1, .ref (ad 0)), (2, .ref (am 0)), (3, .ref o1), (4, .ref o2)]) hx hb d_LW_law_568 hl (k := 7) rfl rfl (by decide) rfl (fun ls hl => ?_)
        refine lv_goto (tgt := 28) hx hb d_LW_law_571 (by decide) ?_
        exact ih (i + 5) s27 s30 f f28 _ _ _ _ ls (by omega) (by omega) hq hP hM hO hG hS (lv_sub hl [3, 4, 5, 6, 7, 0] rfl)
      have hq := hq.2 c25
      by_cases c31 : ((xs (i.toNatClampNeg)) &&& 15) = 5
      · have hq := hq.1 c31
        refine lv_tableIn (tgt := 369) hx hb d_LW_law_44 (by rw [c31]; decide) (by rw [c31]; decide) (by rw [c31]; rfl) (by decide) ?_
        refine lv_aload_n hx hb d_LW_law_369 rfl (lv_at hl 1 rfl) ?_
        refine lv_aload_n hx hb d_LW_law_370 rfl (lv_at hl 0 rfl) ?_
        refine lv_iload hx hb d_LW_law_371 (lv_at hl 5 rfl) ?_
        refine lv_iconst (v := 1) hx hb d_LW_law_373 (by decide) ?_
        refine lv_iadd hx hb d_LW_law_374 ?_
        refine va_sld hx hb hX hbl hbA hS hq.1 d_LW_law_375 ?_
        have hq := hq.2
        refine lv_aload hx hb d_LW_law_376 (lv_at hl 4 rfl) ?_
        refine va_calli (vx_runSW (As := [.ref (ad 0), .int (xs ((i + 1).toNatClampNeg)), .ref o2]) (rest := []) ⟨hx, hb, hml, hown, htC⟩ (c_LW_variable hst (D := D) (cs := cs) (cL := cL) hi hAP.2.2.2.2.1.2 hq) (vx_cwSW 3 htC (good_S wC_642 wC_643 wC_43 wC_644) rfl rfl rfl (by decide +kernel) ⟨(show 7 + 1 ≤ 2048 by decide), (show 8 + (4 + 11) + 111 ≤ 84000 by decide)⟩) ⟨hPre_blind, fun U hU hW => ⟨rfl, by rw [hU]; exact hP.app hG, va_K.moved hW.alike hKL, hN.warm hW, (hXW.to hS hU hW).narrow hAP.A2, hNC.moved hW.alike⟩⟩ rfl rfl hl.1 rfl (lv_room (Nat.le_of_ble_eq_true rfl)) d_LW_law_378 ⟨(show _ + 1 ≤ 601024 by omega), (show _ + 6 ≤ 7293034 by omega)⟩) hS (fun q _ h => hAP.A2 q h) hAP.A2 (fun r32 u t H locs ht0 hvm hq hB hz1 hk1 hS => ?_)
        obtain ⟨s33, f34⟩ := u
        have hB : va_P D clA _ t.heap := hB
        rw [ht0] at hB
        have hM := wd_kept hM hAP.m2 hk1
        have hO := keep_o hO hAP.x2 hk1
        have hG := app_r hB
        have hP := app_l hB
        refine lv_istore (lv' := [(6, .int r32), (0, .ref b), (1, .ref (ad 0)), (2, .ref (am 0)), (3, .ref o1), (4, .ref o2), (5, .int i)]) hx hb d_LW_law_381 hl (by decide) rfl (fun ls hl => ?_)
        refine lv_aload_n hx hb d_LW_law_383 rfl (lv_at hl 3 rfl) ?_
        refine lv_aload_n hx hb d_LW_law_384 rfl (lv_at hl 1 rfl) ?_
        refine lv_iload hx hb d_LW_law_385 (lv_at hl 6 rfl) ?_
        refine lv_iconst (v := 1) hx hb d_LW_law_387 (by decide) ?_
        refine lv_iadd hx hb d_LW_law_388 ?_
        refine va_sld hx hb hX hbl hbA hS hq.1 d_LW_law_389 ?_
        have hq := hq.2
        refine va_calld (va_runV (As := [.int (xs ((i + 1).toNatClampNeg))]) (rest := []) ⟨hx, hb, hml, hown, htC⟩ (c_MO_variable (D := D) (cs := cs) him hq) (cwV 1 htC (good_V wC_923 wC_924 wC_925 wC_50 wC_926) rfl rfl rfl (by decide +kernel) ⟨(show 1 + 1 ≤ 2048 by decide), (show 8 + (2 + 11) + 22 ≤ 84000 by decide)⟩) ⟨mP_blind, va_recv hK hM (ci := 5) (q0 := 0) rfl (wd_at (by decide) rfl), fun U hU hW => ⟨rfl, by rw [hU]; exact hM, va_K.moved hW.alike hK, hN.warm hW⟩⟩ rfl rfl hl.1 rfl (lv_room (Nat.le_of_ble_eq_true rfl)) d_LW_law_390 ⟨(show _ + 0 ≤ 601024 by omega), (show _ + 0 ≤ 7293034 by omega)⟩) hS (fun q _ h => hAP.Am q h) hAP.Am (fun r35 s36 t H locs ht0 hvm hq hB hz1 hk1 hS => ?_)
        obtain ⟨hM, -, -⟩ := hB
        rw [ht0] at hM
        have hP := wd_kept hP hAP.c hk1
        have hO := keep_o hO hAP.2.2.2.2.2.1.1 hk1
        have hG := keep_o hG hAP.2.2.2.2.2.1.2 hk1
        refine lv_dstore (lv' := [(7, .double r35), (6, .int r32), (0, .ref b), (1, .ref (ad 0)), (2, .ref (am 0)), (3, .ref o1), (4, .ref o2), (5, .int i)]) hx hb d_LW_law_393 hl (by decide) rfl (fun ls hl => ?_)
        refine lv_goto (tgt := 568) hx hb d_LW_law_395 (by decide) ?_
        refine lv_iinc (v := i + 5) (lv' := [(5, .int (i + 5)), (7, .double r35), (6, .int r32), (0, .ref b), (1, .ref (ad 0)), (2, .ref (am 0)), (3, .ref o1), (4, .ref o2)]) hx hb d_LW_law_568 hl (k := 7) rfl rfl (by decide) rfl (fun ls hl => ?_)
        refine lv_goto (tgt := 28) hx hb d_LW_law_571 (by decide) ?_
        exact ih (i + 5) s33 s36 f f34 _ _ _ _ ls (by omega) (by omega) hq hP hM hO hG hS (lv_sub hl [3, 4, 5, 6, 7, 0] rfl)
      have hq := hq.2 c31
      by_cases c37 : ((xs (i.toNatClampNeg)) &&& 15) = 6
      · have hq := hq.1 c37
        refine lv_tableIn (tgt := 398) hx hb d_LW_law_44 (by rw [c37]; decide) (by rw [c37]; decide) (by rw [c37]; rfl) (by decide) ?_
        refine lv_aload_n hx hb d_LW_law_398 rfl (lv_at hl 1 rfl) ?_
        refine lv_aload_n hx hb d_LW_law_399 rfl (lv_at hl 0 rfl) ?_
        refine lv_iload hx hb d_LW_law_400 (lv_at hl 5 rfl) ?_
        refine lv_iconst (v := 1) hx hb d_LW_law_402 (by decide) ?_
        refine lv_iadd hx hb d_LW_law_403 ?_
        refine va_sld hx hb hX hbl hbA hS hq.1 d_LW_law_404 ?_
        have hq := hq.2
        refine lv_aload_n hx hb d_LW_law_405 rfl (lv_at hl 0 rfl) ?_
        refine lv_iload hx hb d_LW_law_406 (lv_at hl 5 rfl) ?_
        refine lv_iconst (v := 2) hx hb d_LW_law_408 (by decide) ?_
        refine lv_iadd hx hb d_LW_law_409 ?_
        refine va_sld hx hb hX hbl hbA hS hq.1 d_LW_law_410 ?_
        have hq := hq.2
        refine lv_aload hx hb d_LW_law_411 (lv_at hl 4 rfl) ?_
        refine va_calli (vx_runSW (As := [.ref (ad 0), .int (xs ((i + 1).toNatClampNeg)), .int (xs ((i + 2).toNatClampNeg)), .ref o2]) (rest := []) ⟨hx, hb, hml, hown, htC⟩ (c_LW_element hst (D := D) (cs := cs) (cL := cL) hi hAP.2.2.2.2.1.2 hq) (vx_cwSW 4 htC (good_S wC_650 wC_651 wC_43 wC_652) rfl rfl rfl (by decide +kernel) ⟨(show 7 + 1 ≤ 2048 by decide), (show 8 + (5 + 11) + 112 ≤ 84000 by decide)⟩) ⟨hPre_blind, fun U hU hW => ⟨rfl, by rw [hU]; exact hP.app hG, va_K.moved hW.alike hKL, hN.warm hW, (hXW.to hS hU hW).narrow hAP.A2, hNC.moved hW.alike⟩⟩ rfl rfl hl.1 rfl (lv_room (Nat.le_of_ble_eq_true rfl)) d_LW_law_413 ⟨(show _ + 1 ≤ 601024 by omega), (show _ + 6 ≤ 7293034 by omega)⟩) hS (fun q _ h => hAP.A2 q h) hAP.A2 (fun r38 u t H locs ht0 hvm hq hB hz1 hk1 hS => ?_)
        obtain ⟨s39, f40⟩ := u
        have hB : va_P D clA _ t.heap := hB
        rw [ht0] at hB
        have hM := wd_kept hM hAP.m2 hk1
        have hO := keep_o hO hAP.x2 hk1
        have hG := app_r hB
        have hP := app_l hB
        refine lv_istore (lv' := [(6, .int r38), (0, .ref b), (1, .ref (ad 0)), (2, .ref (am 0)), (3, .ref o1), (4, .ref o2), (5, .int i)]) hx hb d_LW_law_416 hl (by decide) rfl (fun ls hl => ?_)
        refine lv_aload_n hx hb d_LW_law_418 rfl (lv_at hl 3 rfl) ?_
        refine lv_aload_n hx hb d_LW_law_419 rfl (lv_at hl 1 rfl) ?_
        refine lv_iload hx hb d_LW_law_420 (lv_at hl 6 rfl) ?_
        refine lv_iconst (v := 1) hx hb d_LW_law_422 (by decide) ?_
        refine lv_iadd hx hb d_LW_law_423 ?_
        refine va_sld hx hb hX hbl hbA hS hq.1 d_LW_law_424 ?_
        have hq := hq.2
        refine lv_aload_n hx hb d_LW_law_425 rfl (lv_at hl 1 rfl) ?_
        refine lv_iload hx hb d_LW_law_426 (lv_at hl 6 rfl) ?_
        refine lv_iconst (v := 2) hx hb d_LW_law_428 (by decide) ?_
        refine lv_iadd hx hb d_LW_law_429 ?_
        refine va_sld hx hb hX hbl hbA hS hq.1 d_LW_law_430 ?_
        have hq := hq.2
        refine va_calld (va_runV (As := [.int (xs ((i + 1).toNatClampNeg)), .int (xs ((i + 2).toNatClampNeg))]) (rest := []) ⟨hx, hb, hml, hown, htC⟩ (c_MO_element (D := D) (cs := cs) him hq) (cwV 2 htC (good_V wC_927 wC_928 wC_929 wC_50 wC_930) rfl rfl rfl (by decide +kernel) ⟨(show 1 + 1 ≤ 2048 by decide), (show 8 + (4 + 11) + 24 ≤ 84000 by decide)⟩) ⟨mP_blind, va_recv hK hM (ci := 5) (q0 := 0) rfl (wd_at (by decide) rfl), fun U hU hW => ⟨rfl, by rw [hU]; exact hM, va_K.moved hW.alike hK, hN.warm hW⟩⟩ rfl rfl hl.1 rfl (lv_room (Nat.le_of_ble_eq_true rfl)) d_LW_law_431 ⟨(show _ + 0 ≤ 601024 by omega), (show _ + 0 ≤ 7293034 by omega)⟩) hS (fun q _ h => hAP.Am q h) hAP.Am (fun r41 s42 t H locs ht0 hvm hq hB hz1 hk1 hS => ?_)
        obtain ⟨hM, -, -⟩ := hB
        rw [ht0] at hM
        have hP := wd_kept hP hAP.c hk1
        have hO := keep_o hO hAP.2.2.2.2.2.1.1 hk1
        have hG := keep_o hG hAP.2.2.2.2.2.1.2 hk1
        refine lv_dstore (lv' := [(7, .double r41), (6, .int r38), (0, .ref b), (1, .ref (ad 0)), (2, .ref (am 0)), (3, .ref o1), (4, .ref o2), (5, .int i)]) hx hb d_LW_law_434 hl (by decide) rfl (fun ls hl => ?_)
        refine lv_aload_n hx hb d_LW_law_436 rfl (lv_at hl 4 rfl) ?_
        refine va_calli (va_runV (As := []) (rest := []) ⟨hx, hb, hml, hown, htC⟩ (c_MO_thrown (D := D) (cs := cs) him hq) (cwV 0 htC (good_V wC_800 wC_801 wC_802 wC_50 wC_803) rfl rfl rfl (by decide +kernel) ⟨(show 0 + 1 ≤ 2048 by decide), (show 8 + (1 + 11) + 0 ≤ 84000 by decide)⟩) ⟨mP_blind, va_recv hK hM (ci := 5) (q0 := 0) rfl (wd_at (by decide) rfl), fun U hU hW => ⟨rfl, by rw [hU]; exact hM, va_K.moved hW.alike hK, hN.warm hW⟩⟩ rfl rfl hl.1 rfl (lv_room (Nat.le_of_ble_eq_true rfl)) d_LW_law_437 ⟨(show _ + 0 ≤ 601024 by omega), (show _ + 0 ≤ 7293034 by omega)⟩) hS (fun q _ h => hAP.Am q h) hAP.Am (fun r43 s44 t H locs ht0 hvm hq hB hz1 hk1 hS => ?_)
        obtain ⟨hM, -, -⟩ := hB
        rw [ht0] at hM
        have hP := wd_kept hP hAP.c hk1
        have hO := keep_o hO hAP.2.2.2.2.2.1.1 hk1
        have hG := keep_o hG hAP.2.2.2.2.2.1.2 hk1
        refine lv_iload hx hb d_LW_law_440 (lv_at hl 1 rfl) ?_
        refine lv_icmp_eq (tgt := 447) hx hb d_LW_law_442 (by decide) (fun c45 => ?_) (fun c45 => ?_)
        · have hq := hq.1 c45
          refine lv_iload hx hb d_LW_law_447 (lv_at hl 1 rfl) ?_
          refine lv_if_ne (tgt := 484) hx hb d_LW_law_449 (by decide) (fun c46 => ?_) (fun c46 => ?_)
          · have hq := hq.2 c46
            refine lv_goto (tgt := 568) hx hb d_LW_law_484 (by decide) ?_
            refine lv_iinc (v := i + 5) (lv' := [(5, .int (i + 5)), (7, .double r41), (6, .int r38), (0, .ref b), (1, .ref (ad 0)), (2, .ref (am 0)), (3, .ref o1), (4, .ref o2)]) hx hb d_LW_law_568 hl (k := 7) rfl rfl (by decide) rfl (fun ls hl => ?_)
            refine lv_goto (tgt := 28) hx hb d_LW_law_571 (by decide) ?_
            exact ih (i + 5) s39 s44 f f40 _ _ _ _ ls (by omega) (by omega) hq hP hM hO hG hS (lv_sub hl [3, 4, 5, 6, 7, 0] rfl)
          · have hq := hq.1 c46
            refine lv_aload hx hb d_LW_law_452 (lv_at hl 6 rfl) ?_
            refine lv_iconst (v := 0) hx hb d_LW_law_454 (by decide) ?_
            refine va_dald hx hb hKL hG 0 1 rfl rfl (show vp_in _ _ by unfold vp_in; decide) d_LW_law_455 ?_
            refine lv_dload hx hb d_LW_law_456 (lv_at hl 0 rfl) ?_
            refine lv_dcmp hx hb d_LW_law_458 ?_
            refine lv_if_eq (tgt := 484) hx hb d_LW_law_459 (by decide) (fun c47 => ?_) (fun c47 => ?_)
            · have hq := hq.1 c47
              refine lv_goto (tgt := 568) hx hb d_LW_law_484 (by decide) ?_
              refine lv_iinc (v := i + 5) (lv' := [(5, .int (i + 5)), (7, .double r41), (6, .int r38), (0, .ref b), (1, .ref (ad 0)), (2, .ref (am 0)), (3, .ref o1), (4, .ref o2)]) hx hb d_LW_law_568 hl (k := 7) rfl rfl (by decide) rfl (fun ls hl => ?_)
              refine lv_goto (tgt := 28) hx hb d_LW_law_571 (by decide) ?_
              exact ih (i + 5) s39 s44 f f40 _ _ _ _ ls (by omega) (by omega) hq hP hM hO hG hS (lv_sub hl [3, 4, 5, 6, 7, 0] rfl)
            · have hq := hq.2 c47
              refine lv_aload hx hb d_LW_law_462 (lv_at hl 6 rfl) ?_
              refine lv_iconst (v := 0) hx hb d_LW_law_464 (by decide) ?_
              refine va_dald hx hb hKL hG 0 1 rfl rfl (show vp_in _ _ by unfold vp_in; decide) d_LW_law_465 ?_
              refine lv_aload hx hb d_LW_law_466 (lv_at hl 6 rfl) ?_
              refine lv_iconst (v := 0) hx hb d_LW_law_468 (by decide) ?_
              refine va_dald hx hb hKL hG 0 1 rfl rfl (show vp_in _ _ by unfold vp_in; decide) d_LW_law_469 ?_
              refine lv_dcmp hx hb d_LW_law_470 ?_
              refine lv_if_eq (tgt := 482) hx hb d_LW_law_471 (by decide) (fun c48 => ?_) (fun c48 => ?_)
              · have hq := hq.1 c48
                refine lv_iconst (v := 0) hx hb d_LW_law_482 (by decide) ?_
                exact hq.elim
              · have hq := hq.2 c48
                refine lv_dload hx hb d_LW_law_474 (lv_at hl 0 rfl) ?_
                refine lv_dload hx hb d_LW_law_476 (lv_at hl 0 rfl) ?_
                refine lv_dcmp hx hb d_LW_law_478 ?_
                refine lv_if_ne (tgt := 484) hx hb d_LW_law_479 (by decide) (fun c49 => ?_) (fun c49 => ?_)
                · have hq := hq.2 c49
                  refine lv_goto (tgt := 568) hx hb d_LW_law_484 (by decide) ?_
                  refine lv_iinc (v := i + 5) (lv' := [(5, .int (i + 5)), (7, .double r41), (6, .int r38), (0, .ref b), (1, .ref (ad 0)), (2, .ref (am 0)), (3, .ref o1), (4, .ref o2)]) hx hb d_LW_law_568 hl (k := 7) rfl rfl (by decide) rfl (fun ls hl => ?_)
                  refine lv_goto (tgt := 28) hx hb d_LW_law_571 (by decide) ?_
                  exact ih (i + 5) s39 s44 f f40 _ _ _ _ ls (by omega) (by omega) hq hP hM hO hG hS (lv_sub hl [3, 4, 5, 6, 7, 0] rfl)
                · have hq := hq.1 c49
                  refine lv_iconst (v := 0) hx hb d_LW_law_482 (by decide) ?_
                  exact hq.elim
        · have hq := hq.2 c45
          refine lv_iconst (v := 0) hx hb d_LW_law_445 (by decide) ?_
          exact hq.elim
      have hq := hq.2 c37
      by_cases c50 : ((xs (i.toNatClampNeg)) &&& 15) = 7
      · have hq := hq.1 c50
        refine lv_tableIn (tgt := 487) hx hb d_LW_law_44 (by rw [c50]; decide) (by rw [c50]; decide) (by rw [c50]; rfl) (by decide) ?_
        refine lv_aload_n hx hb d_LW_law_487 rfl (lv_at hl 1 rfl) ?_
        refine lv_aload_n hx hb d_LW_law_488 rfl (lv_at hl 0 rfl) ?_
        refine lv_iload hx hb d_LW_law_489 (lv_at hl 5 rfl) ?_
        refine lv_iconst (v := 1) hx hb d_LW_law_491 (by decide) ?_
        refine lv_iadd hx hb d_LW_law_492 ?_
        refine va_sld hx hb hX hbl hbA hS hq.1 d_LW_law_493 ?_
        have hq := hq.2
        refine lv_aload_n hx hb d_LW_law_494 rfl (lv_at hl 0 rfl) ?_
        refine lv_iload hx hb d_LW_law_495 (lv_at hl 5 rfl) ?_
        refine lv_iconst (v := 2) hx hb d_LW_law_497 (by decide) ?_
        refine lv_iadd hx hb d_LW_law_498 ?_
        refine va_sld hx hb hX hbl hbA hS hq.1 d_LW_law_499 ?_
        have hq := hq.2
        refine lv_aload_n hx hb d_LW_law_500 rfl (lv_at hl 3 rfl) ?_
        refine va_calli (vx_runSW (As := [.ref (ad 0), .int (xs ((i + 1).toNatClampNeg)), .int (xs ((i + 2).toNatClampNeg)), .ref o1]) (rest := []) ⟨hx, hb, hml, hown, htC⟩ (c_LW_node hst (D := D) (cs := cs) (cL := cL) hi hAP.2.2.2.2.1.1 hq) (vx_cwSW 4 htC (good_S wC_660 wC_661 wC_43 wC_662) rfl rfl rfl (by decide +kernel) ⟨(show 7 + 1 ≤ 2048 by decide), (show 8 + (5 + 11) + 112 ≤ 84000 by decide)⟩) ⟨hPre_blind, fun U hU hW => ⟨rfl, by rw [hU]; exact hP.app hO, va_K.moved hW.alike hKL, hN.warm hW, (hXW.to hS hU hW).narrow hAP.A1, hNC.moved hW.alike⟩⟩ rfl rfl hl.1 rfl (lv_room (Nat.le_of_ble_eq_true rfl)) d_LW_law_501 ⟨(show _ + 1 ≤ 601024 by omega), (show _ + 6 ≤ 7293034 by omega)⟩) hS (fun q _ h => hAP.A1 q h) hAP.A1 (fun r51 u t H locs ht0 hvm hq hB hz1 hk1 hS => ?_)
        obtain ⟨s52, f53⟩ := u
        have hB : va_P D clA _ t.heap := hB
        rw [ht0] at hB
        have hM := wd_kept hM hAP.m1 hk1
        have hG := keep_o hG hAP.x1 hk1
        have hO := app_r hB
        have hP := app_l hB
        refine lv_istore (lv' := [(6, .int r51), (0, .ref b), (1, .ref (ad 0)), (2, .ref (am 0)), (3, .ref o1), (4, .ref o2), (5, .int i)]) hx hb d_LW_law_504 hl (by decide) rfl (fun ls hl => ?_)
        refine lv_aload_n hx hb d_LW_law_506 rfl (lv_at hl 3 rfl) ?_
        refine lv_aload_n hx hb d_LW_law_507 rfl (lv_at hl 1 rfl) ?_
        refine lv_iload hx hb d_LW_law_508 (lv_at hl 6 rfl) ?_
        refine lv_iconst (v := 1) hx hb d_LW_law_510 (by decide) ?_
        refine lv_iadd hx hb d_LW_law_511 ?_
        refine va_sld hx hb hX hbl hbA hS hq.1 d_LW_law_512 ?_
        have hq := hq.2
        refine lv_aload_n hx hb d_LW_law_513 rfl (lv_at hl 1 rfl) ?_
        refine lv_iload hx hb d_LW_law_514 (lv_at hl 6 rfl) ?_
        refine lv_iconst (v := 2) hx hb d_LW_law_516 (by decide) ?_
        refine lv_iadd hx hb d_LW_law_517 ?_
        refine va_sld hx hb hX hbl hbA hS hq.1 d_LW_law_518 ?_
        have hq := hq.2
        refine va_calli (va_runV (As := [.int (xs ((i + 1).toNatClampNeg)), .int (xs ((i + 2).toNatClampNeg))]) (rest := []) ⟨hx, hb, hml, hown, htC⟩ (c_MO_node (D := D) (cs := cs) him hq) (cwV 2 htC (good_V wC_931 wC_932 wC_933 wC_50 wC_934) rfl rfl rfl (by decide +kernel) ⟨(show 2 + 1 ≤ 2048 by decide), (show 8 + (4 + 11) + 43 ≤ 84000 by decide)⟩) ⟨mP_blind, va_recv hK hM (ci := 5) (q0 := 0) rfl (wd_at (by decide) rfl), fun U hU hW => ⟨rfl, by rw [hU]; exact hM, va_K.moved hW.alike hK, hN.warm hW⟩⟩ rfl rfl hl.1 rfl (lv_room (Nat.le_of_ble_eq_true rfl)) d_LW_law_519 ⟨(show _ + 0 ≤ 601024 by omega), (show _ + 0 ≤ 7293034 by omega)⟩) hS (fun q _ h => hAP.Am q h) hAP.Am (fun r54 s55 t H locs ht0 hvm hq hB hz1 hk1 hS => ?_)
        obtain ⟨hM, -, -⟩ := hB
        rw [ht0] at hM
        have hP := wd_kept hP hAP.c hk1
        have hO := keep_o hO hAP.2.2.2.2.2.1.1 hk1
        have hG := keep_o hG hAP.2.2.2.2.2.1.2 hk1
        refine lv_istore (lv' := [(7, .int r54), (6, .int r51), (0, .ref b), (1, .ref (ad 0)), (2, .ref (am 0)), (3, .ref o1), (4, .ref o2), (5, .int i)]) hx hb d_LW_law_522 hl (by decide) rfl (fun ls hl => ?_)
        refine lv_goto (tgt := 568) hx hb d_LW_law_524 (by decide) ?_
        refine lv_iinc (v := i + 5) (lv' := [(5, .int (i + 5)), (7, .int r54), (6, .int r51), (0, .ref b), (1, .ref (ad 0)), (2, .ref (am 0)), (3, .ref o1), (4, .ref o2)]) hx hb d_LW_law_568 hl (k := 7) rfl rfl (by decide) rfl (fun ls hl => ?_)
        refine lv_goto (tgt := 28) hx hb d_LW_law_571 (by decide) ?_
        exact ih (i + 5) s52 s55 f53 g _ _ _ _ ls (by omega) (by omega) hq hP hM hO hG hS (lv_sub hl [3, 4, 5, 6, 7, 0] rfl)
      have hq := hq.2 c50
      by_cases c56 : ((xs (i.toNatClampNeg)) &&& 15) = 8
      · have hq := hq.1 c56
        refine lv_tableIn (tgt := 527) hx hb d_LW_law_44 (by rw [c56]; decide) (by rw [c56]; decide) (by rw [c56]; rfl) (by decide) ?_
        refine lv_aload_n hx hb d_LW_law_527 rfl (lv_at hl 1 rfl) ?_
        refine va_calli (va_runV (As := []) (rest := []) ⟨hx, hb, hml, hown, htC⟩ (c_NF_clear (D := D) (cs := cs) hi hq) (cwV 0 htC (good_V wC_237 wC_238 wC_239 wC_44 wC_240) rfl rfl rfl (by decide +kernel) ⟨(show 2 + 1 ≤ 2048 by decide), (show 8 + (2 + 11) + 43 ≤ 84000 by decide)⟩) ⟨cP_blind, va_recv hK hP (ci := 0) (q0 := 0) rfl (wd_at (by decide) rfl), fun U hU hW => ⟨rfl, by rw [hU]; exact hP, va_K.moved hW.alike hK, hN.warm hW⟩⟩ rfl rfl hl.1 rfl (lv_room (Nat.le_of_ble_eq_true rfl)) d_LW_law_528 ⟨(show _ + 0 ≤ 601024 by omega), (show _ + 0 ≤ 7293034 by omega)⟩) hS (fun q _ h => hAP.Ac q h) hAP.Ac (fun r57 s58 t H locs ht0 hvm hq hB hz1 hk1 hS => ?_)
        obtain ⟨hP, -, -⟩ := hB
        rw [ht0] at hP
        have hM := wd_kept hM hAP.m0 hk1
        have hO := keep_o hO hAP.2.2.2.2.1.1 hk1
        have hG := keep_o hG hAP.2.2.2.2.1.2 hk1
        refine lv_pop hx hb d_LW_law_531 rfl ?_
        refine lv_aload_n hx hb d_LW_law_532 rfl (lv_at hl 2 rfl) ?_
        refine va_calli (va_runV (As := []) (rest := []) ⟨hx, hb, hml, hown, htC⟩ (c_MO_clear (D := D) (cs := cs) him hq) (cwV 0 htC (good_V wC_935 wC_936 wC_937 wC_50 wC_938) rfl rfl rfl (by decide +kernel) ⟨(show 0 + 1 ≤ 2048 by decide), (show 8 + (3 + 11) + 0 ≤ 84000 by decide)⟩) ⟨mP_blind, va_recv hK hM (ci := 5) (q0 := 0) rfl (wd_at (by decide) rfl), fun U hU hW => ⟨rfl, by rw [hU]; exact hM, va_K.moved hW.alike hK, hN.warm hW⟩⟩ rfl rfl hl.1 rfl (lv_room (Nat.le_of_ble_eq_true rfl)) d_LW_law_533 ⟨(show _ + 0 ≤ 601024 by omega), (show _ + 0 ≤ 7293034 by omega)⟩) hS (fun q _ h => hAP.Am q h) hAP.Am (fun r59 s60 t H locs ht0 hvm hq hB hz1 hk1 hS => ?_)
        obtain ⟨hM, -, -⟩ := hB
        rw [ht0] at hM
        have hP := wd_kept hP hAP.c hk1
        have hO := keep_o hO hAP.2.2.2.2.2.1.1 hk1
        have hG := keep_o hG hAP.2.2.2.2.2.1.2 hk1
        refine lv_pop hx hb d_LW_law_536 rfl ?_
        refine lv_goto (tgt := 568) hx hb d_LW_law_537 (by decide) ?_
        refine lv_iinc (v := i + 5) (lv' := [(5, .int (i + 5)), (0, .ref b), (1, .ref (ad 0)), (2, .ref (am 0)), (3, .ref o1), (4, .ref o2)]) hx hb d_LW_law_568 hl (k := 5) rfl rfl (by decide) rfl (fun ls hl => ?_)
        refine lv_goto (tgt := 28) hx hb d_LW_law_571 (by decide) ?_
        exact ih (i + 5) s58 s60 f g _ _ _ _ ls (by omega) (by omega) hq hP hM hO hG hS (lv_sub hl [1, 2, 3, 4, 5, 0] rfl)
      have hq := hq.2 c56
      by_cases c61 : ((xs (i.toNatClampNeg)) &&& 15) = 9
      · have hq := hq.1 c61
        refine lv_tableIn (tgt := 540) hx hb d_LW_law_44 (by rw [c61]; decide) (by rw [c61]; decide) (by rw [c61]; rfl) (by decide) ?_
        refine lv_aload_n hx hb d_LW_law_540 rfl (lv_at hl 1 rfl) ?_
        refine lv_aload_n hx hb d_LW_law_541 rfl (lv_at hl 0 rfl) ?_
        refine lv_iload hx hb d_LW_law_542 (lv_at hl 5 rfl) ?_
        refine lv_iconst (v := 1) hx hb d_LW_law_544 (by decide) ?_
        refine lv_iadd hx hb d_LW_law_545 ?_
        refine va_sld hx hb hX hbl hbA hS hq.1 d_LW_law_546 ?_
        have hq := hq.2
        refine lv_aload_n hx hb d_LW_law_547 rfl (lv_at hl 3 rfl) ?_
        refine va_calli (vx_runSW (As := [.ref (ad 0), .int (xs ((i + 1).toNatClampNeg)), .ref o1]) (rest := []) ⟨hx, hb, hml, hown, htC⟩ (c_LW_count hst (D := D) (cs := cs) (cL := cL) hi hAP.2.2.2.2.1.1 hq) (vx_cwSW 3 htC (good_S wC_668 wC_669 wC_43 wC_670) rfl rfl rfl (by decide +kernel) ⟨(show 7 + 1 ≤ 2048 by decide), (show 8 + (4 + 11) + 111 ≤ 84000 by decide)⟩) ⟨hPre_blind, fun U hU hW => ⟨rfl, by rw [hU]; exact hP.app hO, va_K.moved hW.alike hKL, hN.warm hW, (hXW.to hS hU hW).narrow hAP.A1, hNC.moved hW.alike⟩⟩ rfl rfl hl.1 rfl (lv_room (Nat.le_of_ble_eq_true rfl)) d_LW_law_548 ⟨(show _ + 1 ≤ 601024 by omega), (show _ + 6 ≤ 7293034 by omega)⟩) hS (fun q _ h => hAP.A1 q h) hAP.A1 (fun r62 u t H locs ht0 hvm hq hB hz1 hk1 hS => ?_)
        obtain ⟨s63, f64⟩ := u
        have hB : va_P D clA _ t.heap := hB
        rw [ht0] at hB
        have hM := wd_kept hM hAP.m1 hk1
        have hG := keep_o hG hAP.x1 hk1
        have hO := app_r hB
        have hP := app_l hB
        refine lv_istore (lv' := [(6, .int r62), (0, .ref b), (1, .ref (ad 0)), (2, .ref (am 0)), (3, .ref o1), (4, .ref o2), (5, .int i)]) hx hb d_LW_law_551 hl (by decide) rfl (fun ls hl => ?_)
        refine lv_aload_n hx hb d_LW_law_553 rfl (lv_at hl 3 rfl) ?_
        refine lv_aload_n hx hb d_LW_law_554 rfl (lv_at hl 1 rfl) ?_
        refine lv_iload hx hb d_LW_law_555 (lv_at hl 6 rfl) ?_
        refine lv_iconst (v := 1) hx hb d_LW_law_557 (by decide) ?_
        refine lv_iadd hx hb d_LW_law_558 ?_
        refine va_sld hx hb hX hbl hbA hS hq.1 d_LW_law_559 ?_
        have hq := hq.2
        refine va_calli (va_runV (As := [.int (xs ((i + 1).toNatClampNeg))]) (rest := []) ⟨hx, hb, hml, hown, htC⟩ (c_MO_count (D := D) (cs := cs) him hq) (cwV 1 htC (good_V wC_939 wC_940 wC_941 wC_50 wC_942) rfl rfl rfl (by decide +kernel) ⟨(show 1 + 1 ≤ 2048 by decide), (show 8 + (2 + 11) + 22 ≤ 84000 by decide)⟩) ⟨mP_blind, va_recv hK hM (ci := 5) (q0 := 0) rfl (wd_at (by decide) rfl), fun U hU hW => ⟨rfl, by rw [hU]; exact hM, va_K.moved hW.alike hK, hN.warm hW⟩⟩ rfl rfl hl.1 rfl (lv_room (Nat.le_of_ble_eq_true rfl)) d_LW_law_560 ⟨(show _ + 0 ≤ 601024 by omega), (show _ + 0 ≤ 7293034 by omega)⟩) hS (fun q _ h => hAP.Am q h) hAP.Am (fun r65 s66 t H locs ht0 hvm hq hB hz1 hk1 hS => ?_)
        obtain ⟨hM, -, -⟩ := hB
        rw [ht0] at hM
        have hP := wd_kept hP hAP.c hk1
        have hO := keep_o hO hAP.2.2.2.2.2.1.1 hk1
        have hG := keep_o hG hAP.2.2.2.2.2.1.2 hk1
        refine lv_istore (lv' := [(7, .int r65), (6, .int r62), (0, .ref b), (1, .ref (ad 0)), (2, .ref (am 0)), (3, .ref o1), (4, .ref o2), (5, .int i)]) hx hb d_LW_law_563 hl (by decide) rfl (fun ls hl => ?_)
        refine lv_goto (tgt := 568) hx hb d_LW_law_565 (by decide) ?_
        refine lv_iinc (v := i + 5) (lv' := [(5, .int (i + 5)), (7, .int r65), (6, .int r62), (0, .ref b), (1, .ref (ad 0)), (2, .ref (am 0)), (3, .ref o1), (4, .ref o2)]) hx hb d_LW_law_568 hl (k := 7) rfl rfl (by decide) rfl (fun ls hl => ?_)
        refine lv_goto (tgt := 28) hx hb d_LW_law_571 (by decide) ?_
        exact ih (i + 5) s63 s66 f64 g _ _ _ _ ls (by omega) (by omega) hq hP hM hO hG hS (lv_sub hl [3, 4, 5, 6, 7, 0] rfl)
      have hq := hq.2 c61
      refine cw_tabD (tgt := 568) hx hb d_LW_law_44 (by decide) ?_ ?_
      · have e_c2 := lv_neT c2 (a := 0) rfl; have e_c8 := lv_neT c8 (a := 1) rfl; have e_c13 := lv_neT c13 (a := 2) rfl; have e_c19 := lv_neT c19 (a := 3) rfl; have e_c25 := lv_neT c25 (a := 4) rfl; have e_c31 := lv_neT c31 (a := 5) rfl; have e_c37 := lv_neT c37 (a := 6) rfl; have e_c50 := lv_neT c50 (a := 7) rfl; have e_c56 := lv_neT c56 (a := 8) rfl; have e_c61 := lv_neT c61 (a := 9) rfl
        have g3 : ((xs (i.toNatClampNeg)) &&& 15).toInt < 0 ∨ 9 < ((xs (i.toNatClampNeg)) &&& 15).toInt := by omega
        exact g3.elim Or.inl (fun g => Or.inr (Or.inl g))
      refine lv_iinc (v := i + 5) (lv' := [(5, .int (i + 5)), (0, .ref b), (1, .ref (ad 0)), (2, .ref (am 0)), (3, .ref o1), (4, .ref o2)]) hx hb d_LW_law_568 hl (k := 5) rfl rfl (by decide) rfl (fun ls hl => ?_)
      refine lv_goto (tgt := 28) hx hb d_LW_law_571 (by decide) ?_
      exact ih (i + 5) σ τ f g _ _ _ _ ls (by omega) (by omega) hq hP hM hO hG hS (lv_sub hl [1, 2, 3, 4, 5, 0] rfl)
