/-! the law's loop -/
theorem wd_kept {D : va_G} {cl : List vw_C} {ad : Nat → Nat} {ct : Nat → va_E} {n : Nat} {H H1 : Heap} {B : Nat → Prop} (h : va_P D cl (wd ad ct n) H) (hn : ∀ k, k < n → ¬ B (ad k)) (hk : ∀ q : Nat, q < H.size → ¬ B q → H1[q]? = H[q]?) : va_P D cl (wd ad ct n) H1 := by
  refine h.kept (fun k q hq => ?_)
  obtain ⟨h1, rfl⟩ := wd_inv hq
  exact hk _ (wd_Pk h h1).lt (hn k h1)
/-- all that the law has made lies apart -/
def AP (ad am : Nat → Nat) (o1 o2 sz : Nat) : Prop := (∀ k, k < 51 → sz ≤ ad k) ∧ (∀ k, k < 25 → sz ≤ am k) ∧ (sz ≤ o1 ∧ sz ≤ o2) ∧ (∀ k, k < 25 → ¬ aK ad 51 (am k)) ∧ (¬ aK ad 51 o1 ∧ ¬ aK ad 51 o2) ∧ (¬ aK am 25 o1 ∧ ¬ aK am 25 o2) ∧ o1 ≠ o2
theorem AP.m0 {ad am : Nat → Nat} {o1 o2 sz : Nat} (h : AP ad am o1 o2 sz) : ∀ k, k < 25 → ¬ aK ad 51 (am k) := h.2.2.2.1
theorem AP.m1 {ad am : Nat → Nat} {o1 o2 sz : Nat} (h : AP ad am o1 o2 sz) : ∀ k, k < 25 → ¬ aO ad o1 (am k) := fun k hk z => z.elim (h.m0 k hk) (fun e => h.2.2.2.2.2.1.1 ⟨k, hk, e.symm⟩)
theorem AP.m2 {ad am : Nat → Nat} {o1 o2 sz : Nat} (h : AP ad am o1 o2 sz) : ∀ k, k < 25 → ¬ aO ad o2 (am k) := fun k hk z => z.elim (h.m0 k hk) (fun e => h.2.2.2.2.2.1.2 ⟨k, hk, e.symm⟩)
theorem AP.c {ad am : Nat → Nat} {o1 o2 sz : Nat} (h : AP ad am o1 o2 sz) : ∀ k, k < 51 → ¬ aK am 25 (ad k) := fun k hk ⟨j, hj, e⟩ => h.m0 j hj ⟨k, hk, e.symm⟩
theorem AP.x1 {ad am : Nat → Nat} {o1 o2 sz : Nat} (h : AP ad am o1 o2 sz) : ¬ aO ad o1 o2 := fun z => z.elim h.2.2.2.2.1.2 (fun e => h.2.2.2.2.2.2 e.symm)
theorem AP.x2 {ad am : Nat → Nat} {o1 o2 sz : Nat} (h : AP ad am o1 o2 sz) : ¬ aO ad o2 o1 := fun z => z.elim h.2.2.2.2.1.1 h.2.2.2.2.2.2
theorem AP.Ac {ad am : Nat → Nat} {o1 o2 sz : Nat} (h : AP ad am o1 o2 sz) : ∀ q, aK ad 51 q → sz ≤ q := fun q ⟨k, hk, e⟩ => by rw [e]; exact h.1 k hk
theorem AP.A1 {ad am : Nat → Nat} {o1 o2 sz : Nat} (h : AP ad am o1 o2 sz) : ∀ q, aO ad o1 q → sz ≤ q := fun q z => z.elim (h.Ac q) (fun e => by rw [e]; exact h.2.2.1.1)
theorem AP.A2 {ad am : Nat → Nat} {o1 o2 sz : Nat} (h : AP ad am o1 o2 sz) : ∀ q, aO ad o2 q → sz ≤ q := fun q z => z.elim (h.Ac q) (fun e => by rw [e]; exact h.2.2.1.2)
theorem AP.Am {ad am : Nat → Nat} {o1 o2 sz : Nat} (h : AP ad am o1 o2 sz) : ∀ q, aK am 25 q → sz ≤ q := fun q ⟨k, hk, e⟩ => by rw [e]; exact h.2.1 k hk
def lp_law (L : Nat) (xs : Nat → Int32) : Nat → Int32 → CS → CS → (Nat → Int64) → (Nat → UInt64) → Prop
  | 0 => fun _ _ _ _ _ => False
  | k + 1 => fun i σ τ f g => ((((Int32.ofNat L) - 5) < i → True) ∧ (¬ ((Int32.ofNat L) - 5) < i → (vp_in i L ∧ ((((xs (i.toNatClampNeg)) &&& 15) = 0 → (vp_in (i + 1) L ∧ (vp_in (i + 2) L ∧ (vp_in (i + 3) L ∧ (vp_in (i + 4) L ∧ (wp_LW_make (xs ((i + 1).toNatClampNeg)) (xs ((i + 2).toNatClampNeg)) (xs ((i + 3).toNatClampNeg)) (xs ((i + 4).toNatClampNeg)) σ f (fun r3 s4 f5 => (vp_in (i + 1) L ∧ (vp_in (i + 2) L ∧ (vp_in (i + 3) L ∧ (vp_in (i + 4) L ∧ (wp_MO_make (xs ((i + 1).toNatClampNeg)) (xs ((i + 2).toNatClampNeg)) (xs ((i + 3).toNatClampNeg)) (xs ((i + 4).toNatClampNeg)) τ (fun r6 s7 => lp_law L xs k (i + 5) s4 s7 f5 g))))))))))))) ∧ (¬ ((xs (i.toNatClampNeg)) &&& 15) = 0 → ((((xs (i.toNatClampNeg)) &&& 15) = 1 → (vp_in (i + 1) L ∧ (vp_in (i + 2) L ∧ (vp_in (i + 3) L ∧ (vp_in (i + 4) L ∧ (wp_LW_procedure (xs ((i + 1).toNatClampNeg)) (xs ((i + 2).toNatClampNeg)) (xs ((i + 3).toNatClampNeg)) (xs ((i + 4).toNatClampNeg)) σ (fun r9 s10 => (vp_in (i + 1) L ∧ (vp_in (i + 2) L ∧ (vp_in (i + 3) L ∧ (vp_in (i + 4) L ∧ (wp_MO_procedure (xs ((i + 1).toNatClampNeg)) (xs ((i + 2).toNatClampNeg)) (xs ((i + 3).toNatClampNeg)) (xs ((i + 4).toNatClampNeg)) τ (fun s12 => (wp_MO_thrown  s12 (fun r13 s14 => ((r13 = r9 → lp_law L xs k (i + 5) s10 s14 f g) ∧ (¬ r13 = r9 → False))))))))))))))))) ∧ (¬ ((xs (i.toNatClampNeg)) &&& 15) = 1 → ((((xs (i.toNatClampNeg)) &&& 15) = 2 → (vp_in (i + 1) L ∧ (vp_in (i + 2) L ∧ (vp_in (i + 3) L ∧ (vp_in (i + 4) L ∧ (wp_LW_bounds (xs ((i + 1).toNatClampNeg)) (xs ((i + 2).toNatClampNeg)) (xs ((i + 3).toNatClampNeg)) (xs ((i + 4).toNatClampNeg)) σ f (fun r17 s18 f19 => (vp_in (i + 1) L ∧ (vp_in (i + 2) L ∧ (vp_in (i + 3) L ∧ (vp_in (i + 4) L ∧ (wp_MO_bounds (xs ((i + 1).toNatClampNeg)) (xs ((i + 2).toNatClampNeg)) (xs ((i + 3).toNatClampNeg)) (xs ((i + 4).toNatClampNeg)) τ (fun r20 s21 => lp_law L xs k (i + 5) s18 s21 f19 g))))))))))))) ∧ (¬ ((xs (i.toNatClampNeg)) &&& 15) = 2 → ((((xs (i.toNatClampNeg)) &&& 15) = 3 → (vp_in (i + 1) L ∧ (vp_in (i + 2) L ∧ (vf_n64 (FP.dmul (FP.i2d (xs ((i + 2).toNatClampNeg))) 4593671619917905920) ∧ (wp_LW_put (xs ((i + 1).toNatClampNeg)) (FP.dmul (FP.i2d (xs ((i + 2).toNatClampNeg))) 4593671619917905920) σ g (fun r23 s24 f25 => (vp_in (i + 1) L ∧ (vp_in (i + 2) L ∧ (vf_n64 (FP.dmul (FP.i2d (xs ((i + 2).toNatClampNeg))) 4593671619917905920) ∧ (wp_MO_put (xs ((i + 1).toNatClampNeg)) (FP.dmul (FP.i2d (xs ((i + 2).toNatClampNeg))) 4593671619917905920) τ (fun r26 s27 => lp_law L xs k (i + 5) s24 s27 f f25))))))))))) ∧ (¬ ((xs (i.toNatClampNeg)) &&& 15) = 3 → ((((xs (i.toNatClampNeg)) &&& 15) = 4 → (vp_in (i + 1) L ∧ (wp_LW_work (xs ((i + 1).toNatClampNeg)) σ g (fun r29 s30 f31 => (vp_in (i + 1) L ∧ (wp_MO_work (xs ((i + 1).toNatClampNeg)) τ (fun r32 s33 => lp_law L xs k (i + 5) s30 s33 f f31))))))) ∧ (¬ ((xs (i.toNatClampNeg)) &&& 15) = 4 → ((((xs (i.toNatClampNeg)) &&& 15) = 5 → (vp_in (i + 1) L ∧ (wp_LW_variable (xs ((i + 1).toNatClampNeg)) σ g (fun r35 s36 f37 => (vp_in (i + 1) L ∧ (wp_MO_variable (xs ((i + 1).toNatClampNeg)) τ (fun r38 s39 => lp_law L xs k (i + 5) s36 s39 f f37))))))) ∧ (¬ ((xs (i.toNatClampNeg)) &&& 15) = 5 → ((((xs (i.toNatClampNeg)) &&& 15) = 6 → (vp_in (i + 1) L ∧ (vp_in (i + 2) L ∧ (wp_LW_element (xs ((i + 1).toNatClampNeg)) (xs ((i + 2).toNatClampNeg)) σ g (fun r41 s42 f43 => (vp_in (i + 1) L ∧ (vp_in (i + 2) L ∧ (wp_MO_element (xs ((i + 1).toNatClampNeg)) (xs ((i + 2).toNatClampNeg)) τ (fun r44 s45 => lp_law L xs k (i + 5) s42 s45 f f43))))))))) ∧ (¬ ((xs (i.toNatClampNeg)) &&& 15) = 6 → ((((xs (i.toNatClampNeg)) &&& 15) = 7 → (vp_in (i + 1) L ∧ (vp_in (i + 2) L ∧ (wp_LW_node (xs ((i + 1).toNatClampNeg)) (xs ((i + 2).toNatClampNeg)) σ f (fun r47 s48 f49 => (vp_in (i + 1) L ∧ (vp_in (i + 2) L ∧ (wp_MO_node (xs ((i + 1).toNatClampNeg)) (xs ((i + 2).toNatClampNeg)) τ (fun r50 s51 => lp_law L xs k (i + 5) s48 s51 f49 g))))))))) ∧ (¬ ((xs (i.toNatClampNeg)) &&& 15) = 7 → ((((xs (i.toNatClampNeg)) &&& 15) = 8 → (wp_NF_clear  σ (fun r53 s54 => (wp_MO_clear  τ (fun r55 s56 => lp_law L xs k (i + 5) s54 s56 f g))))) ∧ (¬ ((xs (i.toNatClampNeg)) &&& 15) = 8 → ((((xs (i.toNatClampNeg)) &&& 15) = 9 → (vp_in (i + 1) L ∧ (wp_LW_count (xs ((i + 1).toNatClampNeg)) σ f (fun r58 s59 f60 => (vp_in (i + 1) L ∧ (wp_MO_count (xs ((i + 1).toNatClampNeg)) τ (fun r61 s62 => lp_law L xs k (i + 5) s59 s62 f60 g))))))) ∧ (¬ ((xs (i.toNatClampNeg)) &&& 15) = 9 → lp_law L xs k (i + 5) σ τ f g)))))))))))))))))))))))
set_option maxHeartbeats 8000000 in
set_option maxRecDepth 100000 in
theorem law_loop {p : Program} {e : Env} {s : State} {m : MethodId} {below : List Frame} {meth : Method} {c : Code} {l : Launch} (hst : l.stackTraces = false) {b L : Nat} {xs : Nat → Int32} {D : va_G} {cs : CI} {cL : ClassId} {ad am : Nat → Nat} {o1 o2 : Nat} (hi : aI ad 51) (him : aI am 25) (hAP : AP ad am o1 o2 s.heap.size) (hx : p.tables.exec = Jvm.exec) (hb : c.code = b_LW_law) (hr : meth.sig.returnType = ret) (hml : c.maxLocals = 9) (hown : s.vm.findClass R_LW = some m.cls) {c0 : Cond} (htC : ∀ w ∈ c0 :: wC, w.before #[Value.ref b] s = true) (hX : va_X b L xs s s.heap) (hbl : b < s.heap.size) (hlocks : meth.locks = false) (hKL : va_K D clA (tyL cs cL) s) (hN : NW s) (hXW : XW (fun q => s.heap.size ≤ q) s) (hNC : NC s) (k : Nat) : ∀ (i : Int32) (σ τ : CS) (f : Nat → Int64) (g : Nat → UInt64) (H : Heap) (locs : List Loc) (cells slots : Nat) (ls : Array Slot), cells + k ≤ 601024 → slots + 6 * k ≤ 7293034 → lp_law L xs k i σ τ f g → va_P D clA (wd ad (cont ad cs σ) 51) H → va_P D clA (wd am (contM am cs τ) 25) H → va_P D clA [(o1, .inl (cL, 1, .inr (.inl f)))] H → va_P D clA [(o2, .inl (cs.2.1, 1, .inr (.inr (.inr (.inl g)))))] H → va_S (fun q => s.heap.size ≤ q) s.heap H locs → lv_has ls 9 [(0, .ref b), (1, .ref (ad 0)), (2, .ref (am 0)), (3, .ref o1), (4, .ref o2), (5, .int i)] → W p l e room_1 s m #[Value.ref b] below meth c H locs cells slots (lw_Z below #[Value.ref b] s) (F0 m 28 ls []) := by
  have hbA : ¬ (fun q : Nat => s.heap.size ≤ q) b := Nat.not_le.mpr hbl
  have hK := hKL.sub (tys' := tyC cs) [0, 1, 2] rfl
  have ht : ∀ w ∈ wC, w.before _ s = true := fun w h => htC w (List.mem_cons_of_mem _ h)
  induction k with
  | zero => intro i σ τ f g H locs cells slots ls _ _ hq; exact hq.elim
  | succ k ih =>
    intro i σ τ f g H locs cells slots ls hc hsl hq hP hM hO hG hS hl
    unfold lp_law at hq
    refine lv_iload hx hb d_LW_law_28 (lv_at hl 5 rfl) ?_
    refine lv_aload_n hx hb d_LW_law_30 rfl (lv_at hl 0 rfl) ?_
    refine va_slen hx hb hX hbl hbA hS d_LW_law_31 ?_
    refine lv_iconst (v := 5) hx hb d_LW_law_32 (by decide) ?_
    refine lv_isub hx hb d_LW_law_33 ?_
    refine lv_icmp_gt (tgt := 537) hx hb d_LW_law_34 (by decide) (fun c1 => ?_) (fun c1 => ?_)
    · have hq := hq.1 c1
      refine lv_iconst (v := 1) hx hb d_LW_law_537 (by decide) ?_
      refine va_forget (fun q h => hS.2.2 q h) ?_
      refine W.widen (k := 601024) (n := 7293034) (by omega) (by omega) ?_
      exact lw_ret hx hb hr hlocks d_LW_law_538
    · have hq := hq.2 c1
      refine lv_aload_n hx hb d_LW_law_37 rfl (lv_at hl 0 rfl) ?_
      refine lv_iload hx hb d_LW_law_38 (lv_at hl 5 rfl) ?_
      refine va_sld hx hb hX hbl hbA hS hq.1 d_LW_law_40 ?_
      have hq := hq.2
      refine lv_bipush (v := 15) hx hb d_LW_law_41 (by decide) ?_
      refine lv_iand hx hb d_LW_law_43 ?_
      by_cases c2 : ((xs (i.toNatClampNeg)) &&& 15) = 0
      · have hq := hq.1 c2
        refine lv_tableIn (tgt := 100) hx hb d_LW_law_44 (by rw [c2]; decide) (by rw [c2]; decide) (by rw [c2]; rfl) (by decide) ?_
        refine lv_aload_n hx hb d_LW_law_100 rfl (lv_at hl 1 rfl) ?_
        refine lv_aload_n hx hb d_LW_law_101 rfl (lv_at hl 0 rfl) ?_
        refine lv_iload hx hb d_LW_law_102 (lv_at hl 5 rfl) ?_
        refine lv_iconst (v := 1) hx hb d_LW_law_104 (by decide) ?_
        refine lv_iadd hx hb d_LW_law_105 ?_
        refine va_sld hx hb hX hbl hbA hS hq.1 d_LW_law_106 ?_
        have hq := hq.2
        refine lv_aload_n hx hb d_LW_law_107 rfl (lv_at hl 0 rfl) ?_
        refine lv_iload hx hb d_LW_law_108 (lv_at hl 5 rfl) ?_
        refine lv_iconst (v := 2) hx hb d_LW_law_110 (by decide) ?_
        refine lv_iadd hx hb d_LW_law_111 ?_
        refine va_sld hx hb hX hbl hbA hS hq.1 d_LW_law_112 ?_
        have hq := hq.2
        refine lv_aload_n hx hb d_LW_law_113 rfl (lv_at hl 0 rfl) ?_
        refine lv_iload hx hb d_LW_law_114 (lv_at hl 5 rfl) ?_
        refine lv_iconst (v := 3) hx hb d_LW_law_116 (by decide) ?_
        refine lv_iadd hx hb d_LW_law_117 ?_
        refine va_sld hx hb hX hbl hbA hS hq.1 d_LW_law_118 ?_
        have hq := hq.2
        refine lv_aload_n hx hb d_LW_law_119 rfl (lv_at hl 0 rfl) ?_
        refine lv_iload hx hb d_LW_law_120 (lv_at hl 5 rfl) ?_
        refine lv_iconst (v := 4) hx hb d_LW_law_122 (by decide) ?_
        refine lv_iadd hx hb d_LW_law_123 ?_
        refine va_sld hx hb hX hbl hbA hS hq.1 d_LW_law_124 ?_
        have hq := hq.2
        refine lv_aload_n hx hb d_LW_law_125 rfl (lv_at hl 3 rfl) ?_
        refine va_calli (vx_runSW (As := [.ref (ad 0), .int (xs ((i + 1).toNatClampNeg)), .int (xs ((i + 2).toNatClampNeg)), .int (xs ((i + 3).toNatClampNeg)), .int (xs ((i + 4).toNatClampNeg)), .ref o1]) (rest := []) ⟨hx, hb, hml, hown, htC⟩ (c_LW_make hst (D := D) (cs := cs) (cL := cL) hi hAP.2.2.2.2.1.1 hq) (vx_cwSW 6 htC (good_S wC_245 wC_246 wC_43 wC_247) rfl rfl rfl (by decide +kernel) ⟨(show 7 + 1 ≤ 2048 by decide), (show 8 + (7 + 11) + 114 ≤ 84000 by decide)⟩) ⟨hPre_blind, fun U hU hW => ⟨rfl, by rw [hU]; exact hP.app hO, va_K.moved hW.alike hKL, hN.warm hW, (hXW.to hS hU hW).narrow hAP.A1, hNC.moved hW.alike⟩⟩ rfl rfl hl.1 rfl (lv_room (Nat.le_of_ble_eq_true rfl)) d_LW_law_126 ⟨(show _ + 1 ≤ 601024 by omega), (show _ + 6 ≤ 7293034 by omega)⟩) hS (fun q _ h => hAP.A1 q h) hAP.A1 (fun r3 u t H locs ht0 hvm hq hB hz1 hk1 hS => ?_)
        obtain ⟨s4, f5⟩ := u
        have hB : va_P D clA _ t.heap := hB
        rw [ht0] at hB
        have hM := wd_kept hM hAP.m1 hk1
        have hG := keep_o hG hAP.x1 hk1
        have hO := app_r hB
        have hP := app_l hB
        refine lv_istore (lv' := [(6, .int r3), (0, .ref b), (1, .ref (ad 0)), (2, .ref (am 0)), (3, .ref o1), (4, .ref o2), (5, .int i)]) hx hb d_LW_law_129 hl (by decide) rfl (fun ls hl => ?_)
        refine lv_aload_n hx hb d_LW_law_131 rfl (lv_at hl 3 rfl) ?_
        refine lv_aload_n hx hb d_LW_law_132 rfl (lv_at hl 1 rfl) ?_
        refine lv_iload hx hb d_LW_law_133 (lv_at hl 6 rfl) ?_
        refine lv_iconst (v := 1) hx hb d_LW_law_135 (by decide) ?_
        refine lv_iadd hx hb d_LW_law_136 ?_
        refine va_sld hx hb hX hbl hbA hS hq.1 d_LW_law_137 ?_
        have hq := hq.2
        refine lv_aload_n hx hb d_LW_law_138 rfl (lv_at hl 1 rfl) ?_
        refine lv_iload hx hb d_LW_law_139 (lv_at hl 6 rfl) ?_
        refine lv_iconst (v := 2) hx hb d_LW_law_141 (by decide) ?_
        refine lv_iadd hx hb d_LW_law_142 ?_
        refine va_sld hx hb hX hbl hbA hS hq.1 d_LW_law_143 ?_
        have hq := hq.2
        refine lv_aload_n hx hb d_LW_law_144 rfl (lv_at hl 1 rfl) ?_
        refine lv_iload hx hb d_LW_law_145 (lv_at hl 6 rfl) ?_
        refine lv_iconst (v := 3) hx hb d_LW_law_147 (by decide) ?_
        refine lv_iadd hx hb d_LW_law_148 ?_
        refine va_sld hx hb hX hbl hbA hS hq.1 d_LW_law_149 ?_
        have hq := hq.2
        refine lv_aload_n hx hb d_LW_law_150 rfl (lv_at hl 1 rfl) ?_
        refine lv_iload hx hb d_LW_law_151 (lv_at hl 6 rfl) ?_
        refine lv_iconst (v := 4) hx hb d_LW_law_153 (by decide) ?_
        refine lv_iadd hx hb d_LW_law_154 ?_
        refine va_sld hx hb hX hbl hbA hS hq.1 d_LW_law_155 ?_
        have hq := hq.2
        refine va_calli (va_runV (As := [.int (xs ((i + 1).toNatClampNeg)), .int (xs ((i + 2).toNatClampNeg)), .int (xs ((i + 3).toNatClampNeg)), .int (xs ((i + 4).toNatClampNeg))]) (rest := []) ⟨hx, hb, hml, hown, htC⟩ (c_MO_make (D := D) (cs := cs) him hq) (cwV 4 htC (good_V wC_804 wC_805 wC_806 wC_50 wC_807) rfl rfl rfl (by decide +kernel) ⟨(show 3 + 1 ≤ 2048 by decide), (show 8 + (7 + 11) + 67 ≤ 84000 by decide)⟩) ⟨mP_blind, va_recv hK hM (ci := 5) (q0 := 0) rfl (wd_at (by decide) rfl), fun U hU hW => ⟨rfl, by rw [hU]; exact hM, va_K.moved hW.alike hK, hN.warm hW⟩⟩ rfl rfl hl.1 rfl (lv_room (Nat.le_of_ble_eq_true rfl)) d_LW_law_156 ⟨(show _ + 0 ≤ 601024 by omega), (show _ + 0 ≤ 7293034 by omega)⟩) hS (fun q _ h => hAP.Am q h) hAP.Am (fun r6 s7 t H locs ht0 hvm hq hB hz1 hk1 hS => ?_)
        obtain ⟨hM, -, -⟩ := hB
        rw [ht0] at hM
        have hP := wd_kept hP hAP.c hk1
        have hO := keep_o hO hAP.2.2.2.2.2.1.1 hk1
        have hG := keep_o hG hAP.2.2.2.2.2.1.2 hk1
        refine lv_istore (lv' := [(7, .int r6), (6, .int r3), (0, .ref b), (1, .ref (ad 0)), (2, .ref (am 0)), (3, .ref o1), (4, .ref o2), (5, .int i)]) hx hb d_LW_law_159 hl (by decide) rfl (fun ls hl => ?_)
        refine lv_goto (tgt := 531) hx hb d_LW_law_161 (by decide) ?_
        refine lv_iinc (v := i + 5) (lv' := [(5, .int (i + 5)), (7, .int r6), (6, .int r3), (0, .ref b), (1, .ref (ad 0)), (2, .ref (am 0)), (3, .ref o1), (4, .ref o2)]) hx hb d_LW_law_531 hl (k := 7) rfl rfl (by decide) rfl (fun ls hl => ?_)
        refine lv_goto (tgt := 28) hx hb d_LW_law_534 (by decide) ?_
        exact ih (i + 5) s4 s7 f5 g _ _ _ _ ls (by omega) (by omega) hq hP hM hO hG hS (lv_sub hl [3, 4, 5, 6, 7, 0] rfl)
      have hq := hq.2 c2
      by_cases c8 : ((xs (i.toNatClampNeg)) &&& 15) = 1
      · have hq := hq.1 c8
        refine lv_tableIn (tgt := 164) hx hb d_LW_law_44 (by rw [c8]; decide) (by rw [c8]; decide) (by rw [c8]; rfl) (by decide) ?_
        refine lv_aload_n hx hb d_LW_law_164 rfl (lv_at hl 1 rfl) ?_
        refine lv_aload_n hx hb d_LW_law_165 rfl (lv_at hl 0 rfl) ?_
        refine lv_iload hx hb d_LW_law_166 (lv_at hl 5 rfl) ?_
        refine lv_iconst (v := 1) hx hb d_LW_law_168 (by decide) ?_
        refine lv_iadd hx hb d_LW_law_169 ?_
        refine va_sld hx hb hX hbl hbA hS hq.1 d_LW_law_170 ?_
        have hq := hq.2
        refine lv_aload_n hx hb d_LW_law_171 rfl (lv_at hl 0 rfl) ?_
        refine lv_iload hx hb d_LW_law_172 (lv_at hl 5 rfl) ?_
        refine lv_iconst (v := 2) hx hb d_LW_law_174 (by decide) ?_
        refine lv_iadd hx hb d_LW_law_175 ?_
        refine va_sld hx hb hX hbl hbA hS hq.1 d_LW_law_176 ?_
        have hq := hq.2
        refine lv_aload_n hx hb d_LW_law_177 rfl (lv_at hl 0 rfl) ?_
        refine lv_iload hx hb d_LW_law_178 (lv_at hl 5 rfl) ?_
        refine lv_iconst (v := 3) hx hb d_LW_law_180 (by decide) ?_
        refine lv_iadd hx hb d_LW_law_181 ?_
        refine va_sld hx hb hX hbl hbA hS hq.1 d_LW_law_182 ?_
        have hq := hq.2
        refine lv_aload_n hx hb d_LW_law_183 rfl (lv_at hl 0 rfl) ?_
        refine lv_iload hx hb d_LW_law_184 (lv_at hl 5 rfl) ?_
        refine lv_iconst (v := 4) hx hb d_LW_law_186 (by decide) ?_
        refine lv_iadd hx hb d_LW_law_187 ?_
        refine va_sld hx hb hX hbl hbA hS hq.1 d_LW_law_188 ?_
        have hq := hq.2
        refine va_calli (vx_runSW (As := [.ref (ad 0), .int (xs ((i + 1).toNatClampNeg)), .int (xs ((i + 2).toNatClampNeg)), .int (xs ((i + 3).toNatClampNeg)), .int (xs ((i + 4).toNatClampNeg))]) (rest := []) ⟨hx, hb, hml, hown, htC⟩ (c_LW_procedure hst (D := D) (cs := cs) (cL := cL) hi hq) (vx_cwSW 5 htC (good_S wC_366 wC_367 wC_43 wC_368) rfl rfl rfl (by decide +kernel) ⟨(show 7 + 1 ≤ 2048 by decide), (show 8 + (6 + 11) + 114 ≤ 84000 by decide)⟩) ⟨hPre_blind, fun U hU hW => ⟨rfl, by rw [hU]; exact hP, va_K.moved hW.alike hKL, hN.warm hW, (hXW.to hS hU hW).narrow hAP.Ac, hNC.moved hW.alike⟩⟩ rfl rfl hl.1 rfl (lv_room (Nat.le_of_ble_eq_true rfl)) d_LW_law_189 ⟨(show _ + 1 ≤ 601024 by omega), (show _ + 6 ≤ 7293034 by omega)⟩) hS (fun q _ h => hAP.Ac q h) hAP.Ac (fun r9 u t H locs ht0 hvm hq hB hz1 hk1 hS => ?_)
        obtain ⟨s10, hu9⟩ : ∃ z, z = u := ⟨_, rfl⟩
        rw [← hu9] at hB hq
        have hB : va_P D clA _ t.heap := hB
        rw [ht0] at hB
        have hM := wd_kept hM hAP.m0 hk1
        have hO := keep_o hO hAP.2.2.2.2.1.1 hk1
        have hG := keep_o hG hAP.2.2.2.2.1.2 hk1
        have hP := hB
        refine lv_istore (lv' := [(6, .int r9), (0, .ref b), (1, .ref (ad 0)), (2, .ref (am 0)), (3, .ref o1), (4, .ref o2), (5, .int i)]) hx hb d_LW_law_192 hl (by decide) rfl (fun ls hl => ?_)
        refine lv_aload_n hx hb d_LW_law_194 rfl (lv_at hl 3 rfl) ?_
        refine lv_aload_n hx hb d_LW_law_195 rfl (lv_at hl 1 rfl) ?_
        refine lv_iload hx hb d_LW_law_196 (lv_at hl 6 rfl) ?_
        refine lv_iconst (v := 1) hx hb d_LW_law_198 (by decide) ?_
        refine lv_iadd hx hb d_LW_law_199 ?_
        refine va_sld hx hb hX hbl hbA hS hq.1 d_LW_law_200 ?_
        have hq := hq.2
        refine lv_aload_n hx hb d_LW_law_201 rfl (lv_at hl 1 rfl) ?_
        refine lv_iload hx hb d_LW_law_202 (lv_at hl 6 rfl) ?_
        refine lv_iconst (v := 2) hx hb d_LW_law_204 (by decide) ?_
        refine lv_iadd hx hb d_LW_law_205 ?_
        refine va_sld hx hb hX hbl hbA hS hq.1 d_LW_law_206 ?_
        have hq := hq.2
        refine lv_aload_n hx hb d_LW_law_207 rfl (lv_at hl 1 rfl) ?_
        refine lv_iload hx hb d_LW_law_208 (lv_at hl 6 rfl) ?_
        refine lv_iconst (v := 3) hx hb d_LW_law_210 (by decide) ?_
        refine lv_iadd hx hb d_LW_law_211 ?_
        refine va_sld hx hb hX hbl hbA hS hq.1 d_LW_law_212 ?_
        have hq := hq.2
        refine lv_aload_n hx hb d_LW_law_213 rfl (lv_at hl 1 rfl) ?_
        refine lv_iload hx hb d_LW_law_214 (lv_at hl 6 rfl) ?_
        refine lv_iconst (v := 4) hx hb d_LW_law_216 (by decide) ?_
        refine lv_iadd hx hb d_LW_law_217 ?_
        refine va_sld hx hb hX hbl hbA hS hq.1 d_LW_law_218 ?_
        have hq := hq.2
        refine va_callv (va_runV (As := [.int (xs ((i + 1).toNatClampNeg)), .int (xs ((i + 2).toNatClampNeg)), .int (xs ((i + 3).toNatClampNeg)), .int (xs ((i + 4).toNatClampNeg))]) (rest := []) ⟨hx, hb, hml, hown, htC⟩ (c_MO_procedure (D := D) (cs := cs) him hq) (cwV 4 htC (good_V wC_823 wC_824 wC_825 wC_50 wC_826) rfl rfl rfl (by decide +kernel) ⟨(show 2 + 1 ≤ 2048 by decide), (show 8 + (5 + 11) + 43 ≤ 84000 by decide)⟩) ⟨mP_blind, va_recv hK hM (ci := 5) (q0 := 0) rfl (wd_at (by decide) rfl), fun U hU hW => ⟨rfl, by rw [hU]; exact hM, va_K.moved hW.alike hK, hN.warm hW⟩⟩ rfl rfl hl.1 rfl (lv_room (Nat.le_of_ble_eq_true rfl)) d_LW_law_219 ⟨(show _ + 0 ≤ 601024 by omega), (show _ + 0 ≤ 7293034 by omega)⟩) hS (fun q _ h => hAP.Am q h) hAP.Am (fun s12 t H locs ht0 hvm hq hB hz1 hk1 hS => ?_)
        obtain ⟨hM, -, -⟩ := hB
        rw [ht0] at hM
        have hP := wd_kept hP hAP.c hk1
        have hO := keep_o hO hAP.2.2.2.2.2.1.1 hk1
        have hG := keep_o hG hAP.2.2.2.2.2.1.2 hk1
        refine lv_aload_n hx hb d_LW_law_222 rfl (lv_at hl 3 rfl) ?_
        refine va_calli (va_runV (As := []) (rest := []) ⟨hx, hb, hml, hown, htC⟩ (c_MO_thrown (D := D) (cs := cs) him hq) (cwV 0 htC (good_V wC_800 wC_801 wC_802 wC_50 wC_803) rfl rfl rfl (by decide +kernel) ⟨(show 0 + 1 ≤ 2048 by decide), (show 8 + (1 + 11) + 0 ≤ 84000 by decide)⟩) ⟨mP_blind, va_recv hK hM (ci := 5) (q0 := 0) rfl (wd_at (by decide) rfl), fun U hU hW => ⟨rfl, by rw [hU]; exact hM, va_K.moved hW.alike hK, hN.warm hW⟩⟩ rfl rfl hl.1 rfl (lv_room (Nat.le_of_ble_eq_true rfl)) d_LW_law_223 ⟨(show _ + 0 ≤ 601024 by omega), (show _ + 0 ≤ 7293034 by omega)⟩) hS (fun q _ h => hAP.Am q h) hAP.Am (fun r13 s14 t H locs ht0 hvm hq hB hz1 hk1 hS => ?_)
        obtain ⟨hM, -, -⟩ := hB
        rw [ht0] at hM
        have hP := wd_kept hP hAP.c hk1
        have hO := keep_o hO hAP.2.2.2.2.2.1.1 hk1
        have hG := keep_o hG hAP.2.2.2.2.2.1.2 hk1
        refine lv_iload hx hb d_LW_law_226 (lv_at hl 0 rfl) ?_
        refine lv_icmp_eq (tgt := 233) hx hb d_LW_law_228 (by decide) (fun c15 => ?_) (fun c15 => ?_)
        · have hq := hq.1 c15
          refine lv_goto (tgt := 531) hx hb d_LW_law_233 (by decide) ?_
          refine lv_iinc (v := i + 5) (lv' := [(5, .int (i + 5)), (6, .int r9), (0, .ref b), (1, .ref (ad 0)), (2, .ref (am 0)), (3, .ref o1), (4, .ref o2)]) hx hb d_LW_law_531 hl (k := 6) rfl rfl (by decide) rfl (fun ls hl => ?_)
          refine lv_goto (tgt := 28) hx hb d_LW_law_534 (by decide) ?_
          exact ih (i + 5) s10 s14 f g _ _ _ _ ls (by omega) (by omega) hq hP hM hO hG hS (lv_sub hl [2, 3, 4, 5, 6, 0] rfl)
        · have hq := hq.2 c15
          refine lv_iconst (v := 0) hx hb d_LW_law_231 (by decide) ?_
          exact hq.elim
      have hq := hq.2 c8
      by_cases c16 : ((xs (i.toNatClampNeg)) &&& 15) = 2
      · have hq := hq.1 c16
        refine lv_tableIn (tgt := 236) hx hb d_LW_law_44 (by rw [c16]; decide) (by rw [c16]; decide) (by rw [c16]; rfl) (by decide) ?_
        refine lv_aload_n hx hb d_LW_law_236 rfl (lv_at hl 1 rfl) ?_
        refine lv_aload_n hx hb d_LW_law_237 rfl (lv_at hl 0 rfl) ?_
        refine lv_iload hx hb d_LW_law_238 (lv_at hl 5 rfl) ?_
        refine lv_iconst (v := 1) hx hb d_LW_law_240 (by decide) ?_
        refine lv_iadd hx hb d_LW_law_241 ?_
        refine va_sld hx hb hX hbl hbA hS hq.1 d_LW_law_242 ?_
        have hq := hq.2
        refine lv_aload_n hx hb d_LW_law_243 rfl (lv_at hl 0 rfl) ?_
        refine lv_iload hx hb d_LW_law_244 (lv_at hl 5 rfl) ?_
        refine lv_iconst (v := 2) hx hb d_LW_law_246 (by decide) ?_
        refine lv_iadd hx hb d_LW_law_247 ?_
        refine va_sld hx hb hX hbl hbA hS hq.1 d_LW_law_248 ?_
        have hq := hq.2
        refine lv_aload_n hx hb d_LW_law_249 rfl (lv_at hl 0 rfl) ?_
        refine lv_iload hx hb d_LW_law_250 (lv_at hl 5 rfl) ?_
        refine lv_iconst (v := 3) hx hb d_LW_law_252 (by decide) ?_
        refine lv_iadd hx hb d_LW_law_253 ?_
        refine va_sld hx hb hX hbl hbA hS hq.1 d_LW_law_254 ?_
        have hq := hq.2
        refine lv_aload_n hx hb d_LW_law_255 rfl (lv_at hl 0 rfl) ?_
        refine lv_iload hx hb d_LW_law_256 (lv_at hl 5 rfl) ?_
        refine lv_iconst (v := 4) hx hb d_LW_law_258 (by decide) ?_
        refine lv_iadd hx hb d_LW_law_259 ?_
        refine va_sld hx hb hX hbl hbA hS hq.1 d_LW_law_260 ?_
        have hq := hq.2
        refine lv_aload_n hx hb d_LW_law_261 rfl (lv_at hl 3 rfl) ?_
        refine va_calli (vx_runSW (As := [.ref (ad 0), .int (xs ((i + 1).toNatClampNeg)), .int (xs ((i + 2).toNatClampNeg)), .int (xs ((i + 3).toNatClampNeg)), .int (xs ((i + 4).toNatClampNeg)), .ref o1]) (rest := []) ⟨hx, hb, hml, hown, htC⟩ (c_LW_bounds hst (D := D) (cs := cs) (cL := cL) hi hAP.2.2.2.2.1.1 hq) (vx_cwSW 6 htC (good_S wC_380 wC_381 wC_43 wC_382) rfl rfl rfl (by decide +kernel) ⟨(show 7 + 1 ≤ 2048 by decide), (show 8 + (7 + 11) + 114 ≤ 84000 by decide)⟩) ⟨hPre_blind, fun U hU hW => ⟨rfl, by rw [hU]; exact hP.app hO, va_K.moved hW.alike hKL, hN.warm hW, (hXW.to hS hU hW).narrow hAP.A1, hNC.moved hW.alike⟩⟩ rfl rfl hl.1 rfl (lv_room (Nat.le_of_ble_eq_true rfl)) d_LW_law_262 ⟨(show _ + 1 ≤ 601024 by omega), (show _ + 6 ≤ 7293034 by omega)⟩) hS (fun q _ h => hAP.A1 q h) hAP.A1 (fun r17 u t H locs ht0 hvm hq hB hz1 hk1 hS => ?_)
        obtain ⟨s18, f19⟩ := u
        have hB : va_P D clA _ t.heap := hB
        rw [ht0] at hB
        have hM := wd_kept hM hAP.m1 hk1
        have hG := keep_o hG hAP.x1 hk1
        have hO := app_r hB
        have hP := app_l hB
        refine lv_istore (lv' := [(6, .int r17), (0, .ref b), (1, .ref (ad 0)), (2, .ref (am 0)), (3, .ref o1), (4, .ref o2), (5, .int i)]) hx hb d_LW_law_265 hl (by decide) rfl (fun ls hl => ?_)
        refine lv_aload_n hx hb d_LW_law_267 rfl (lv_at hl 3 rfl) ?_
        refine lv_aload_n hx hb d_LW_law_268 rfl (lv_at hl 1 rfl) ?_
        refine lv_iload hx hb d_LW_law_269 (lv_at hl 6 rfl) ?_
        refine lv_iconst (v := 1) hx hb d_LW_law_271 (by decide) ?_
        refine lv_iadd hx hb d_LW_law_272 ?_
        refine va_sld hx hb hX hbl hbA hS hq.1 d_LW_law_273 ?_
        have hq := hq.2
        refine lv_aload_n hx hb d_LW_law_274 rfl (lv_at hl 1 rfl) ?_
        refine lv_iload hx hb d_LW_law_275 (lv_at hl 6 rfl) ?_
        refine lv_iconst (v := 2) hx hb d_LW_law_277 (by decide) ?_
        refine lv_iadd hx hb d_LW_law_278 ?_
        refine va_sld hx hb hX hbl hbA hS hq.1 d_LW_law_279 ?_
        have hq := hq.2
        refine lv_aload_n hx hb d_LW_law_280 rfl (lv_at hl 1 rfl) ?_
        refine lv_iload hx hb d_LW_law_281 (lv_at hl 6 rfl) ?_
        refine lv_iconst (v := 3) hx hb d_LW_law_283 (by decide) ?_
        refine lv_iadd hx hb d_LW_law_284 ?_
        refine va_sld hx hb hX hbl hbA hS hq.1 d_LW_law_285 ?_
        have hq := hq.2
        refine lv_aload_n hx hb d_LW_law_286 rfl (lv_at hl 1 rfl) ?_
        refine lv_iload hx hb d_LW_law_287 (lv_at hl 6 rfl) ?_
        refine lv_iconst (v := 4) hx hb d_LW_law_289 (by decide) ?_
        refine lv_iadd hx hb d_LW_law_290 ?_
        refine va_sld hx hb hX hbl hbA hS hq.1 d_LW_law_291 ?_
        have hq := hq.2
        refine va_calli (va_runV (As := [.int (xs ((i + 1).toNatClampNeg)), .int (xs ((i + 2).toNatClampNeg)), .int (xs ((i + 3).toNatClampNeg)), .int (xs ((i + 4).toNatClampNeg))]) (rest := []) ⟨hx, hb, hml, hown, htC⟩ (c_MO_bounds (D := D) (cs := cs) him hq) (cwV 4 htC (good_V wC_827 wC_828 wC_829 wC_50 wC_830) rfl rfl rfl (by decide +kernel) ⟨(show 2 + 1 ≤ 2048 by decide), (show 8 + (6 + 11) + 43 ≤ 84000 by decide)⟩) ⟨mP_blind, va_recv hK hM (ci := 5) (q0 := 0) rfl (wd_at (by decide) rfl), fun U hU hW => ⟨rfl, by rw [hU]; exact hM, va_K.moved hW.alike hK, hN.warm hW⟩⟩ rfl rfl hl.1 rfl (lv_room (Nat.le_of_ble_eq_true rfl)) d_LW_law_292 ⟨(show _ + 0 ≤ 601024 by omega), (show _ + 0 ≤ 7293034 by omega)⟩) hS (fun q _ h => hAP.Am q h) hAP.Am (fun r20 s21 t H locs ht0 hvm hq hB hz1 hk1 hS => ?_)
        obtain ⟨hM, -, -⟩ := hB
        rw [ht0] at hM
        have hP := wd_kept hP hAP.c hk1
        have hO := keep_o hO hAP.2.2.2.2.2.1.1 hk1
        have hG := keep_o hG hAP.2.2.2.2.2.1.2 hk1
        refine lv_istore (lv' := [(7, .int r20), (6, .int r17), (0, .ref b), (1, .ref (ad 0)), (2, .ref (am 0)), (3, .ref o1), (4, .ref o2), (5, .int i)]) hx hb d_LW_law_295 hl (by decide) rfl (fun ls hl => ?_)
        refine lv_goto (tgt := 531) hx hb d_LW_law_297 (by decide) ?_
        refine lv_iinc (v := i + 5) (lv' := [(5, .int (i + 5)), (7, .int r20), (6, .int r17), (0, .ref b), (1, .ref (ad 0)), (2, .ref (am 0)), (3, .ref o1), (4, .ref o2)]) hx hb d_LW_law_531 hl (k := 7) rfl rfl (by decide) rfl (fun ls hl => ?_)
        refine lv_goto (tgt := 28) hx hb d_LW_law_534 (by decide) ?_
        exact ih (i + 5) s18 s21 f19 g _ _ _ _ ls (by omega) (by omega) hq hP hM hO hG hS (lv_sub hl [3, 4, 5, 6, 7, 0] rfl)
      have hq := hq.2 c16
      by_cases c22 : ((xs (i.toNatClampNeg)) &&& 15) = 3
      · have hq := hq.1 c22
        refine lv_tableIn (tgt := 300) hx hb d_LW_law_44 (by rw [c22]; decide) (by rw [c22]; decide) (by rw [c22]; rfl) (by decide) ?_
        refine lv_aload_n hx hb d_LW_law_300 rfl (lv_at hl 1 rfl) ?_
        refine lv_aload_n hx hb d_LW_law_301 rfl (lv_at hl 0 rfl) ?_
        refine lv_iload hx hb d_LW_law_302 (lv_at hl 5 rfl) ?_
        refine lv_iconst (v := 1) hx hb d_LW_law_304 (by decide) ?_
        refine lv_iadd hx hb d_LW_law_305 ?_
        refine va_sld hx hb hX hbl hbA hS hq.1 d_LW_law_306 ?_
        have hq := hq.2
        refine lv_aload_n hx hb d_LW_law_307 rfl (lv_at hl 0 rfl) ?_
        refine lv_iload hx hb d_LW_law_308 (lv_at hl 5 rfl) ?_
        refine lv_iconst (v := 2) hx hb d_LW_law_310 (by decide) ?_
        refine lv_iadd hx hb d_LW_law_311 ?_
        refine va_sld hx hb hX hbl hbA hS hq.1 d_LW_law_312 ?_
        have hq := hq.2
        refine lv_i2d hx hb d_LW_law_313 ?_
        refine lv_ldc2d hx hb hown (ht _ wC_943) d_LW_law_314 ?_
        refine lv_dmul hx hb d_LW_law_317 hq.1 ?_
        have hq := hq.2
        refine lv_aload hx hb d_LW_law_318 (lv_at hl 4 rfl) ?_
        refine va_calli (vx_runSW (As := [.ref (ad 0), .int (xs ((i + 1).toNatClampNeg)), .double (FP.dmul (FP.i2d (xs ((i + 2).toNatClampNeg))) 4593671619917905920), .ref o2]) (rest := []) ⟨hx, hb, hml, hown, htC⟩ (c_LW_put hst (D := D) (cs := cs) (cL := cL) hi hAP.2.2.2.2.1.2 hq) (vx_cwSW 4 htC (good_S wC_402 wC_403 wC_43 wC_404) rfl rfl rfl (by decide +kernel) ⟨(show 7 + 1 ≤ 2048 by decide), (show 8 + (6 + 11) + 115 ≤ 84000 by decide)⟩) ⟨hPre_blind, fun U hU hW => ⟨rfl, by rw [hU]; exact hP.app hG, va_K.moved hW.alike hKL, hN.warm hW, (hXW.to hS hU hW).narrow hAP.A2, hNC.moved hW.alike⟩⟩ rfl rfl hl.1 rfl (lv_room (Nat.le_of_ble_eq_true rfl)) d_LW_law_320 ⟨(show _ + 1 ≤ 601024 by omega), (show _ + 6 ≤ 7293034 by omega)⟩) hS (fun q _ h => hAP.A2 q h) hAP.A2 (fun r23 u t H locs ht0 hvm hq hB hz1 hk1 hS => ?_)
        obtain ⟨s24, f25⟩ := u
        have hB : va_P D clA _ t.heap := hB
        rw [ht0] at hB
        have hM := wd_kept hM hAP.m2 hk1
        have hO := keep_o hO hAP.x2 hk1
        have hG := app_r hB
        have hP := app_l hB
        refine lv_istore (lv' := [(6, .int r23), (0, .ref b), (1, .ref (ad 0)), (2, .ref (am 0)), (3, .ref o1), (4, .ref o2), (5, .int i)]) hx hb d_LW_law_323 hl (by decide) rfl (fun ls hl => ?_)
        refine lv_aload_n hx hb d_LW_law_325 rfl (lv_at hl 3 rfl) ?_
        refine lv_aload_n hx hb d_LW_law_326 rfl (lv_at hl 1 rfl) ?_
        refine lv_iload hx hb d_LW_law_327 (lv_at hl 6 rfl) ?_
        refine lv_iconst (v := 1) hx hb d_LW_law_329 (by decide) ?_
        refine lv_iadd hx hb d_LW_law_330 ?_
        refine va_sld hx hb hX hbl hbA hS hq.1 d_LW_law_331 ?_
        have hq := hq.2
        refine lv_aload_n hx hb d_LW_law_332 rfl (lv_at hl 1 rfl) ?_
        refine lv_iload hx hb d_LW_law_333 (lv_at hl 6 rfl) ?_
        refine lv_iconst (v := 2) hx hb d_LW_law_335 (by decide) ?_
        refine lv_iadd hx hb d_LW_law_336 ?_
        refine va_sld hx hb hX hbl hbA hS hq.1 d_LW_law_337 ?_
        have hq := hq.2
        refine lv_i2d hx hb d_LW_law_338 ?_
        refine lv_ldc2d hx hb hown (ht _ wC_943) d_LW_law_339 ?_
        refine lv_dmul hx hb d_LW_law_342 hq.1 ?_
        have hq := hq.2
        refine va_calld (va_runV (As := [.int (xs ((i + 1).toNatClampNeg)), .double (FP.dmul (FP.i2d (xs ((i + 2).toNatClampNeg))) 4593671619917905920)]) (rest := []) ⟨hx, hb, hml, hown, htC⟩ (c_MO_put (D := D) (cs := cs) him hq) (cwV 2 htC (good_V wC_834 wC_835 wC_836 wC_50 wC_837) rfl rfl rfl (by decide +kernel) ⟨(show 1 + 1 ≤ 2048 by decide), (show 8 + (6 + 11) + 25 ≤ 84000 by decide)⟩) ⟨mP_blind, va_recv hK hM (ci := 5) (q0 := 0) rfl (wd_at (by decide) rfl), fun U hU hW => ⟨rfl, by rw [hU]; exact hM, va_K.moved hW.alike hK, hN.warm hW⟩⟩ rfl rfl hl.1 rfl (lv_room (Nat.le_of_ble_eq_true rfl)) d_LW_law_343 ⟨(show _ + 0 ≤ 601024 by omega), (show _ + 0 ≤ 7293034 by omega)⟩) hS (fun q _ h => hAP.Am q h) hAP.Am (fun r26 s27 t H locs ht0 hvm hq hB hz1 hk1 hS => ?_)
        obtain ⟨hM, -, -⟩ := hB
        rw [ht0] at hM
        have hP := wd_kept hP hAP.c hk1
        have hO := keep_o hO hAP.2.2.2.2.2.1.1 hk1
        have hG := keep_o hG hAP.2.2.2.2.2.1.2 hk1
        refine lv_dstore (lv' := [(7, .double r26), (6, .int r23), (0, .ref b), (1, .ref (ad 0)), (2, .ref (am 0)), (3, .ref o1), (4, .ref o2), (5, .int i)]) hx hb d_LW_law_346 hl (by decide) rfl (fun ls hl => ?_)
        refine lv_goto (tgt := 531) hx hb d_LW_law_348 (by decide) ?_
        refine lv_iinc (v := i + 5) (lv' := [(5, .int (i + 5)), (7, .double r26), (6, .int r23), (0, .ref b), (1, .ref (ad 0)), (2, .ref (am 0)), (3, .ref o1), (4, .ref o2)]) hx hb d_LW_law_531 hl (k := 7) rfl rfl (by decide) rfl (fun ls hl => ?_)
        refine lv_goto (tgt := 28) hx hb d_LW_law_534 (by decide) ?_
        exact ih (i + 5) s24 s27 f f25 _ _ _ _ ls (by omega) (by omega) hq hP hM hO hG hS (lv_sub hl [3, 4, 5, 6, 7, 0] rfl)
      have hq := hq.2 c22
      by_cases c28 : ((xs (i.toNatClampNeg)) &&& 15) = 4
      · have hq := hq.1 c28
        refine lv_tableIn (tgt := 351) hx hb d_LW_law_44 (by rw [c28]; decide) (by rw [c28]; decide) (by rw [c28]; rfl) (by decide) ?_
        refine lv_aload_n hx hb d_LW_law_351 rfl (lv_at hl 1 rfl) ?_
        refine lv_aload_n hx hb d_LW_law_352 rfl (lv_at hl 0 rfl) ?_
        refine lv_iload hx hb d_LW_law_353 (lv_at hl 5 rfl) ?_
        refine lv_iconst (v := 1) hx hb d_LW_law_355 (by decide) ?_
        refine lv_iadd hx hb d_LW_law_356 ?_
        refine va_sld hx hb hX hbl hbA hS hq.1 d_LW_law_357 ?_
        have hq := hq.2
        refine lv_aload hx hb d_LW_law_358 (lv_at hl 4 rfl) ?_
        refine va_calli (vx_runSW (As := [.ref (ad 0), .int (xs ((i + 1).toNatClampNeg)), .ref o2]) (rest := []) ⟨hx, hb, hml, hown, htC⟩ (c_LW_work hst (D := D) (cs := cs) (cL := cL) hi hAP.2.2.2.2.1.2 hq) (vx_cwSW 3 htC (good_S wC_423 wC_424 wC_43 wC_425) rfl rfl rfl (by decide +kernel) ⟨(show 1628 + 1 ≤ 2048 by decide), (show 8 + (4 + 11) + 46662 ≤ 84000 by decide)⟩) ⟨hPre_blind, fun U hU hW => ⟨rfl, by rw [hU]; exact hP.app hG, va_K.moved hW.alike hKL, hN.warm hW, (hXW.to hS hU hW).narrow hAP.A2, hNC.moved hW.alike⟩⟩ rfl rfl hl.1 rfl (lv_room (Nat.le_of_ble_eq_true rfl)) d_LW_law_360 ⟨(show _ + 1 ≤ 601024 by omega), (show _ + 6 ≤ 7293034 by omega)⟩) hS (fun q _ h => hAP.A2 q h) hAP.A2 (fun r29 u t H locs ht0 hvm hq hB hz1 hk1 hS => ?_)
        obtain ⟨s30, f31⟩ := u
        have hB : va_P D clA _ t.heap := hB
        rw [ht0] at hB
        have hM := wd_kept hM hAP.m2 hk1
        have hO := keep_o hO hAP.x2 hk1
        have hG := app_r hB
        have hP := app_l hB
        refine lv_istore (lv' := [(6, .int r29), (0, .ref b), (1, .ref (ad 0)), (2, .ref (am 0)), (3, .ref o1), (4, .ref o2), (5, .int i)]) hx hb d_LW_law_363 hl (by decide) rfl (fun ls hl => ?_)
        refine lv_aload_n hx hb d_LW_law_365 rfl (lv_at hl 3 rfl) ?_
        refine lv_aload_n hx hb d_LW_law_366 rfl (lv_at hl 1 rfl) ?_
        refine lv_iload hx hb d_LW_law_367 (lv_at hl 6 rfl) ?_
        refine lv_iconst (v := 1) hx hb d_LW_law_369 (by decide) ?_
        refine lv_iadd hx hb d_LW_law_370 ?_
        refine va_sld hx hb hX hbl hbA hS hq.1 d_LW_law_371 ?_
        have hq := hq.2
        refine va_calld (va_runV (As := [.int (xs ((i + 1).toNatClampNeg))]) (rest := []) ⟨hx, hb, hml, hown, htC⟩ (c_MO_work (D := D) (cs := cs) him hq) (cwV 1 htC (good_V wC_847 wC_848 wC_849 wC_50 wC_850) rfl rfl rfl (by decide +kernel) ⟨(show 5 + 1 ≤ 2048 by decide), (show 8 + (3 + 11) + 112 ≤ 84000 by decide)⟩) ⟨mP_blind, va_recv hK hM (ci := 5) (q0 := 0) rfl (wd_at (by decide) rfl), fun U hU hW => ⟨rfl, by rw [hU]; exact hM, va_K.moved hW.alike hK, hN.warm hW⟩⟩ rfl rfl hl.1 rfl (lv_room (Nat.le_of_ble_eq_true rfl)) d_LW_law_372 ⟨(show _ + 0 ≤ 601024 by omega), (show _ + 0 ≤ 7293034 by omega)⟩) hS (fun q _ h => hAP.Am q h) hAP.Am (fun r32 s33 t H locs ht0 hvm hq hB hz1 hk1 hS => ?_)
        obtain ⟨hM, -, -⟩ := hB
        rw [ht0] at hM
        have hP := wd_kept hP hAP.c hk1
        have hO := keep_o hO hAP.2.2.2.2.2.1.1 hk1
        have hG := keep_o hG hAP.2.2.2.2.2.1.2 hk1
        refine lv_dstore (lv' := [(7, .double r32), (6, .int r29), (0, .ref b), (1, .ref (ad 0)), (2, .ref (am 0)), (3, .ref o1), (4, .ref o2), (5, .int i)]) hx hb d_LW_law_375 hl (by decide) rfl (fun ls hl => ?_)
        refine lv_goto (tgt := 531) hx hb d_LW_law_377 (by decide) ?_
        refine lv_iinc (v := i + 5) (lv' := [(5, .int (i + 5)), (7, .double r32), (6, .int r29), (0, .ref b), (1, .ref (ad 0)), (2, .ref (am 0)), (3, .ref o1), (4, .ref o2)]) hx hb d_LW_law_531 hl (k := 7) rfl rfl (by decide) rfl (fun ls hl => ?_)
        refine lv_goto (tgt := 28) hx hb d_LW_law_534 (by decide) ?_
        exact ih (i + 5) s30 s33 f f31 _ _ _ _ ls (by omega) (by omega) hq hP hM hO hG hS (lv_sub hl [3, 4, 5, 6, 7, 0] rfl)
      have hq := hq.2 c28
      by_cases c34 : ((xs (i.toNatClampNeg)) &&& 15) = 5
      · have hq := hq.1 c34
        refine lv_tableIn (tgt := 380) hx hb d_LW_law_44 (by rw [c34]; decide) (by rw [c34]; decide) (by rw [c34]; rfl) (by decide) ?_
        refine lv_aload_n hx hb d_LW_law_380 rfl (lv_at hl 1 rfl) ?_
        refine lv_aload_n hx hb d_LW_law_381 rfl (lv_at hl 0 rfl) ?_
        refine lv_iload hx hb d_LW_law_382 (lv_at hl 5 rfl) ?_
        refine lv_iconst (v := 1) hx hb d_LW_law_384 (by decide) ?_
        refine lv_iadd hx hb d_LW_law_385 ?_
        refine va_sld hx hb hX hbl hbA hS hq.1 d_LW_law_386 ?_
        have hq := hq.2
        refine lv_aload hx hb d_LW_law_387 (lv_at hl 4 rfl) ?_
        refine va_calli (vx_runSW (As := [.ref (ad 0), .int (xs ((i + 1).toNatClampNeg)), .ref o2]) (rest := []) ⟨hx, hb, hml, hown, htC⟩ (c_LW_variable hst (D := D) (cs := cs) (cL := cL) hi hAP.2.2.2.2.1.2 hq) (vx_cwSW 3 htC (good_S wC_642 wC_643 wC_43 wC_644) rfl rfl rfl (by decide +kernel) ⟨(show 7 + 1 ≤ 2048 by decide), (show 8 + (4 + 11) + 111 ≤ 84000 by decide)⟩) ⟨hPre_blind, fun U hU hW => ⟨rfl, by rw [hU]; exact hP.app hG, va_K.moved hW.alike hKL, hN.warm hW, (hXW.to hS hU hW).narrow hAP.A2, hNC.moved hW.alike⟩⟩ rfl rfl hl.1 rfl (lv_room (Nat.le_of_ble_eq_true rfl)) d_LW_law_389 ⟨(show _ + 1 ≤ 601024 by omega), (show _ + 6 ≤ 7293034 by omega)⟩) hS (fun q _ h => hAP.A2 q h) hAP.A2 (fun r35 u t H locs ht0 hvm hq hB hz1 hk1 hS => ?_)
        obtain ⟨s36, f37⟩ := u
        have hB : va_P D clA _ t.heap := hB
        rw [ht0] at hB
        have hM := wd_kept hM hAP.m2 hk1
        have hO := keep_o hO hAP.x2 hk1
        have hG := app_r hB
        have hP := app_l hB
        refine lv_istore (lv' := [(6, .int r35), (0, .ref b), (1, .ref (ad 0)), (2, .ref (am 0)), (3, .ref o1), (4, .ref o2), (5, .int i)]) hx hb d_LW_law_392 hl (by decide) rfl (fun ls hl => ?_)
        refine lv_aload_n hx hb d_LW_law_394 rfl (lv_at hl 3 rfl) ?_
        refine lv_aload_n hx hb d_LW_law_395 rfl (lv_at hl 1 rfl) ?_
        refine lv_iload hx hb d_LW_law_396 (lv_at hl 6 rfl) ?_
        refine lv_iconst (v := 1) hx hb d_LW_law_398 (by decide) ?_
        refine lv_iadd hx hb d_LW_law_399 ?_
        refine va_sld hx hb hX hbl hbA hS hq.1 d_LW_law_400 ?_
        have hq := hq.2
        refine va_calld (va_runV (As := [.int (xs ((i + 1).toNatClampNeg))]) (rest := []) ⟨hx, hb, hml, hown, htC⟩ (c_MO_variable (D := D) (cs := cs) him hq) (cwV 1 htC (good_V wC_923 wC_924 wC_925 wC_50 wC_926) rfl rfl rfl (by decide +kernel) ⟨(show 1 + 1 ≤ 2048 by decide), (show 8 + (2 + 11) + 22 ≤ 84000 by decide)⟩) ⟨mP_blind, va_recv hK hM (ci := 5) (q0 := 0) rfl (wd_at (by decide) rfl), fun U hU hW => ⟨rfl, by rw [hU]; exact hM, va_K.moved hW.alike hK, hN.warm hW⟩⟩ rfl rfl hl.1 rfl (lv_room (Nat.le_of_ble_eq_true rfl)) d_LW_law_401 ⟨(show _ + 0 ≤ 601024 by omega), (show _ + 0 ≤ 7293034 by omega)⟩) hS (fun q _ h => hAP.Am q h) hAP.Am (fun r38 s39 t H locs ht0 hvm hq hB hz1 hk1 hS => ?_)
        obtain ⟨hM, -, -⟩ := hB
        rw [ht0] at hM
        have hP := wd_kept hP hAP.c hk1
        have hO := keep_o hO hAP.2.2.2.2.2.1.1 hk1
        have hG := keep_o hG hAP.2.2.2.2.2.1.2 hk1
        refine lv_dstore (lv' := [(7, .double r38), (6, .int r35), (0, .ref b), (1, .ref (ad 0)), (2, .ref (am 0)), (3, .ref o1), (4, .ref o2), (5, .int i)]) hx hb d_LW_law_404 hl (by decide) rfl (fun ls hl => ?_)
        refine lv_goto (tgt := 531) hx hb d_LW_law_406 (by decide) ?_
        refine lv_iinc (v := i + 5) (lv' := [(5, .int (i + 5)), (7, .double r38), (6, .int r35), (0, .ref b), (1, .ref (ad 0)), (2, .ref (am 0)), (3, .ref o1), (4, .ref o2)]) hx hb d_LW_law_531 hl (k := 7) rfl rfl (by decide) rfl (fun ls hl => ?_)
        refine lv_goto (tgt := 28) hx hb d_LW_law_534 (by decide) ?_
        exact ih (i + 5) s36 s39 f f37 _ _ _ _ ls (by omega) (by omega) hq hP hM hO hG hS (lv_sub hl [3, 4, 5, 6, 7, 0] rfl)
      have hq := hq.2 c34
      by_cases c40 : ((xs (i.toNatClampNeg)) &&& 15) = 6
      · have hq := hq.1 c40
        refine lv_tableIn (tgt := 409) hx hb d_LW_law_44 (by rw [c40]; decide) (by rw [c40]; decide) (by rw [c40]; rfl) (by decide) ?_
        refine lv_aload_n hx hb d_LW_law_409 rfl (lv_at hl 1 rfl) ?_
        refine lv_aload_n hx hb d_LW_law_410 rfl (lv_at hl 0 rfl) ?_
        refine lv_iload hx hb d_LW_law_411 (lv_at hl 5 rfl) ?_
        refine lv_iconst (v := 1) hx hb d_LW_law_413 (by decide) ?_
        refine lv_iadd hx hb d_LW_law_414 ?_
        refine va_sld hx hb hX hbl hbA hS hq.1 d_LW_law_415 ?_
        have hq := hq.2
        refine lv_aload_n hx hb d_LW_law_416 rfl (lv_at hl 0 rfl) ?_
        refine lv_iload hx hb d_LW_law_417 (lv_at hl 5 rfl) ?_
        refine lv_iconst (v := 2) hx hb d_LW_law_419 (by decide) ?_
        refine lv_iadd hx hb d_LW_law_420 ?_
        refine va_sld hx hb hX hbl hbA hS hq.1 d_LW_law_421 ?_
        have hq := hq.2
        refine lv_aload hx hb d_LW_law_422 (lv_at hl 4 rfl) ?_
        refine va_calli (vx_runSW (As := [.ref (ad 0), .int (xs ((i + 1).toNatClampNeg)), .int (xs ((i + 2).toNatClampNeg)), .ref o2]) (rest := []) ⟨hx, hb, hml, hown, htC⟩ (c_LW_element hst (D := D) (cs := cs) (cL := cL) hi hAP.2.2.2.2.1.2 hq) (vx_cwSW 4 htC (good_S wC_650 wC_651 wC_43 wC_652) rfl rfl rfl (by decide +kernel) ⟨(show 7 + 1 ≤ 2048 by decide), (show 8 + (5 + 11) + 112 ≤ 84000 by decide)⟩) ⟨hPre_blind, fun U hU hW => ⟨rfl, by rw [hU]; exact hP.app hG, va_K.moved hW.alike hKL, hN.warm hW, (hXW.to hS hU hW).narrow hAP.A2, hNC.moved hW.alike⟩⟩ rfl rfl hl.1 rfl (lv_room (Nat.le_of_ble_eq_true rfl)) d_LW_law_424 ⟨(show _ + 1 ≤ 601024 by omega), (show _ + 6 ≤ 7293034 by omega)⟩) hS (fun q _ h => hAP.A2 q h) hAP.A2 (fun r41 u t H locs ht0 hvm hq hB hz1 hk1 hS => ?_)
        obtain ⟨s42, f43⟩ := u
        have hB : va_P D clA _ t.heap := hB
        rw [ht0] at hB
        have hM := wd_kept hM hAP.m2 hk1
        have hO := keep_o hO hAP.x2 hk1
        have hG := app_r hB
        have hP := app_l hB
        refine lv_istore (lv' := [(6, .int r41), (0, .ref b), (1, .ref (ad 0)), (2, .ref (am 0)), (3, .ref o1), (4, .ref o2), (5, .int i)]) hx hb d_LW_law_427 hl (by decide) rfl (fun ls hl => ?_)
        refine lv_aload_n hx hb d_LW_law_429 rfl (lv_at hl 3 rfl) ?_
        refine lv_aload_n hx hb d_LW_law_430 rfl (lv_at hl 1 rfl) ?_
        refine lv_iload hx hb d_LW_law_431 (lv_at hl 6 rfl) ?_
        refine lv_iconst (v := 1) hx hb d_LW_law_433 (by decide) ?_
        refine lv_iadd hx hb d_LW_law_434 ?_
        refine va_sld hx hb hX hbl hbA hS hq.1 d_LW_law_435 ?_
        have hq := hq.2
        refine lv_aload_n hx hb d_LW_law_436 rfl (lv_at hl 1 rfl) ?_
        refine lv_iload hx hb d_LW_law_437 (lv_at hl 6 rfl) ?_
        refine lv_iconst (v := 2) hx hb d_LW_law_439 (by decide) ?_
        refine lv_iadd hx hb d_LW_law_440 ?_
        refine va_sld hx hb hX hbl hbA hS hq.1 d_LW_law_441 ?_
        have hq := hq.2
        refine va_calld (va_runV (As := [.int (xs ((i + 1).toNatClampNeg)), .int (xs ((i + 2).toNatClampNeg))]) (rest := []) ⟨hx, hb, hml, hown, htC⟩ (c_MO_element (D := D) (cs := cs) him hq) (cwV 2 htC (good_V wC_927 wC_928 wC_929 wC_50 wC_930) rfl rfl rfl (by decide +kernel) ⟨(show 1 + 1 ≤ 2048 by decide), (show 8 + (4 + 11) + 24 ≤ 84000 by decide)⟩) ⟨mP_blind, va_recv hK hM (ci := 5) (q0 := 0) rfl (wd_at (by decide) rfl), fun U hU hW => ⟨rfl, by rw [hU]; exact hM, va_K.moved hW.alike hK, hN.warm hW⟩⟩ rfl rfl hl.1 rfl (lv_room (Nat.le_of_ble_eq_true rfl)) d_LW_law_442 ⟨(show _ + 0 ≤ 601024 by omega), (show _ + 0 ≤ 7293034 by omega)⟩) hS (fun q _ h => hAP.Am q h) hAP.Am (fun r44 s45 t H locs ht0 hvm hq hB hz1 hk1 hS => ?_)
        obtain ⟨hM, -, -⟩ := hB
        rw [ht0] at hM
        have hP := wd_kept hP hAP.c hk1
        have hO := keep_o hO hAP.2.2.2.2.2.1.1 hk1
        have hG := keep_o hG hAP.2.2.2.2.2.1.2 hk1
        refine lv_dstore (lv' := [(7, .double r44), (6, .int r41), (0, .ref b), (1, .ref (ad 0)), (2, .ref (am 0)), (3, .ref o1), (4, .ref o2), (5, .int i)]) hx hb d_LW_law_445 hl (by decide) rfl (fun ls hl => ?_)
        refine lv_goto (tgt := 531) hx hb d_LW_law_447 (by decide) ?_
        refine lv_iinc (v := i + 5) (lv' := [(5, .int (i + 5)), (7, .double r44), (6, .int r41), (0, .ref b), (1, .ref (ad 0)), (2, .ref (am 0)), (3, .ref o1), (4, .ref o2)]) hx hb d_LW_law_531 hl (k := 7) rfl rfl (by decide) rfl (fun ls hl => ?_)
        refine lv_goto (tgt := 28) hx hb d_LW_law_534 (by decide) ?_
        exact ih (i + 5) s42 s45 f f43 _ _ _ _ ls (by omega) (by omega) hq hP hM hO hG hS (lv_sub hl [3, 4, 5, 6, 7, 0] rfl)
      have hq := hq.2 c40
      by_cases c46 : ((xs (i.toNatClampNeg)) &&& 15) = 7
      · have hq := hq.1 c46
        refine lv_tableIn (tgt := 450) hx hb d_LW_law_44 (by rw [c46]; decide) (by rw [c46]; decide) (by rw [c46]; rfl) (by decide) ?_
        refine lv_aload_n hx hb d_LW_law_450 rfl (lv_at hl 1 rfl) ?_
        refine lv_aload_n hx hb d_LW_law_451 rfl (lv_at hl 0 rfl) ?_
        refine lv_iload hx hb d_LW_law_452 (lv_at hl 5 rfl) ?_
        refine lv_iconst (v := 1) hx hb d_LW_law_454 (by decide) ?_
        refine lv_iadd hx hb d_LW_law_455 ?_
        refine va_sld hx hb hX hbl hbA hS hq.1 d_LW_law_456 ?_
        have hq := hq.2
        refine lv_aload_n hx hb d_LW_law_457 rfl (lv_at hl 0 rfl) ?_
        refine lv_iload hx hb d_LW_law_458 (lv_at hl 5 rfl) ?_
        refine lv_iconst (v := 2) hx hb d_LW_law_460 (by decide) ?_
        refine lv_iadd hx hb d_LW_law_461 ?_
        refine va_sld hx hb hX hbl hbA hS hq.1 d_LW_law_462 ?_
        have hq := hq.2
        refine lv_aload_n hx hb d_LW_law_463 rfl (lv_at hl 3 rfl) ?_
        refine va_calli (vx_runSW (As := [.ref (ad 0), .int (xs ((i + 1).toNatClampNeg)), .int (xs ((i + 2).toNatClampNeg)), .ref o1]) (rest := []) ⟨hx, hb, hml, hown, htC⟩ (c_LW_node hst (D := D) (cs := cs) (cL := cL) hi hAP.2.2.2.2.1.1 hq) (vx_cwSW 4 htC (good_S wC_660 wC_661 wC_43 wC_662) rfl rfl rfl (by decide +kernel) ⟨(show 7 + 1 ≤ 2048 by decide), (show 8 + (5 + 11) + 112 ≤ 84000 by decide)⟩) ⟨hPre_blind, fun U hU hW => ⟨rfl, by rw [hU]; exact hP.app hO, va_K.moved hW.alike hKL, hN.warm hW, (hXW.to hS hU hW).narrow hAP.A1, hNC.moved hW.alike⟩⟩ rfl rfl hl.1 rfl (lv_room (Nat.le_of_ble_eq_true rfl)) d_LW_law_464 ⟨(show _ + 1 ≤ 601024 by omega), (show _ + 6 ≤ 7293034 by omega)⟩) hS (fun q _ h => hAP.A1 q h) hAP.A1 (fun r47 u t H locs ht0 hvm hq hB hz1 hk1 hS => ?_)
        obtain ⟨s48, f49⟩ := u
        have hB : va_P D clA _ t.heap := hB
        rw [ht0] at hB
        have hM := wd_kept hM hAP.m1 hk1
        have hG := keep_o hG hAP.x1 hk1
        have hO := app_r hB
        have hP := app_l hB
        refine lv_istore (lv' := [(6, .int r47), (0, .ref b), (1, .ref (ad 0)), (2, .ref (am 0)), (3, .ref o1), (4, .ref o2), (5, .int i)]) hx hb d_LW_law_467 hl (by decide) rfl (fun ls hl => ?_)
        refine lv_aload_n hx hb d_LW_law_469 rfl (lv_at hl 3 rfl) ?_
        refine lv_aload_n hx hb d_LW_law_470 rfl (lv_at hl 1 rfl) ?_
        refine lv_iload hx hb d_LW_law_471 (lv_at hl 6 rfl) ?_
        refine lv_iconst (v := 1) hx hb d_LW_law_473 (by decide) ?_
        refine lv_iadd hx hb d_LW_law_474 ?_
        refine va_sld hx hb hX hbl hbA hS hq.1 d_LW_law_475 ?_
        have hq := hq.2
        refine lv_aload_n hx hb d_LW_law_476 rfl (lv_at hl 1 rfl) ?_
        refine lv_iload hx hb d_LW_law_477 (lv_at hl 6 rfl) ?_
        refine lv_iconst (v := 2) hx hb d_LW_law_479 (by decide) ?_
        refine lv_iadd hx hb d_LW_law_480 ?_
        refine va_sld hx hb hX hbl hbA hS hq.1 d_LW_law_481 ?_
        have hq := hq.2
        refine va_calli (va_runV (As := [.int (xs ((i + 1).toNatClampNeg)), .int (xs ((i + 2).toNatClampNeg))]) (rest := []) ⟨hx, hb, hml, hown, htC⟩ (c_MO_node (D := D) (cs := cs) him hq) (cwV 2 htC (good_V wC_931 wC_932 wC_933 wC_50 wC_934) rfl rfl rfl (by decide +kernel) ⟨(show 2 + 1 ≤ 2048 by decide), (show 8 + (4 + 11) + 43 ≤ 84000 by decide)⟩) ⟨mP_blind, va_recv hK hM (ci := 5) (q0 := 0) rfl (wd_at (by decide) rfl), fun U hU hW => ⟨rfl, by rw [hU]; exact hM, va_K.moved hW.alike hK, hN.warm hW⟩⟩ rfl rfl hl.1 rfl (lv_room (Nat.le_of_ble_eq_true rfl)) d_LW_law_482 ⟨(show _ + 0 ≤ 601024 by omega), (show _ + 0 ≤ 7293034 by omega)⟩) hS (fun q _ h => hAP.Am q h) hAP.Am (fun r50 s51 t H locs ht0 hvm hq hB hz1 hk1 hS => ?_)
        obtain ⟨hM, -, -⟩ := hB
        rw [ht0] at hM
        have hP := wd_kept hP hAP.c hk1
        have hO := keep_o hO hAP.2.2.2.2.2.1.1 hk1
        have hG := keep_o hG hAP.2.2.2.2.2.1.2 hk1
        refine lv_istore (lv' := [(7, .int r50), (6, .int r47), (0, .ref b), (1, .ref (ad 0)), (2, .ref (am 0)), (3, .ref o1), (4, .ref o2), (5, .int i)]) hx hb d_LW_law_485 hl (by decide) rfl (fun ls hl => ?_)
        refine lv_goto (tgt := 531) hx hb d_LW_law_487 (by decide) ?_
        refine lv_iinc (v := i + 5) (lv' := [(5, .int (i + 5)), (7, .int r50), (6, .int r47), (0, .ref b), (1, .ref (ad 0)), (2, .ref (am 0)), (3, .ref o1), (4, .ref o2)]) hx hb d_LW_law_531 hl (k := 7) rfl rfl (by decide) rfl (fun ls hl => ?_)
        refine lv_goto (tgt := 28) hx hb d_LW_law_534 (by decide) ?_
        exact ih (i + 5) s48 s51 f49 g _ _ _ _ ls (by omega) (by omega) hq hP hM hO hG hS (lv_sub hl [3, 4, 5, 6, 7, 0] rfl)
      have hq := hq.2 c46
      by_cases c52 : ((xs (i.toNatClampNeg)) &&& 15) = 8
      · have hq := hq.1 c52
        refine lv_tableIn (tgt := 490) hx hb d_LW_law_44 (by rw [c52]; decide) (by rw [c52]; decide) (by rw [c52]; rfl) (by decide) ?_
        refine lv_aload_n hx hb d_LW_law_490 rfl (lv_at hl 1 rfl) ?_
        refine va_calli (va_runV (As := []) (rest := []) ⟨hx, hb, hml, hown, htC⟩ (c_NF_clear (D := D) (cs := cs) hi hq) (cwV 0 htC (good_V wC_237 wC_238 wC_239 wC_44 wC_240) rfl rfl rfl (by decide +kernel) ⟨(show 2 + 1 ≤ 2048 by decide), (show 8 + (2 + 11) + 43 ≤ 84000 by decide)⟩) ⟨cP_blind, va_recv hK hP (ci := 0) (q0 := 0) rfl (wd_at (by decide) rfl), fun U hU hW => ⟨rfl, by rw [hU]; exact hP, va_K.moved hW.alike hK, hN.warm hW⟩⟩ rfl rfl hl.1 rfl (lv_room (Nat.le_of_ble_eq_true rfl)) d_LW_law_491 ⟨(show _ + 0 ≤ 601024 by omega), (show _ + 0 ≤ 7293034 by omega)⟩) hS (fun q _ h => hAP.Ac q h) hAP.Ac (fun r53 s54 t H locs ht0 hvm hq hB hz1 hk1 hS => ?_)
        obtain ⟨hP, -, -⟩ := hB
        rw [ht0] at hP
        have hM := wd_kept hM hAP.m0 hk1
        have hO := keep_o hO hAP.2.2.2.2.1.1 hk1
        have hG := keep_o hG hAP.2.2.2.2.1.2 hk1
        refine lv_pop hx hb d_LW_law_494 rfl ?_
        refine lv_aload_n hx hb d_LW_law_495 rfl (lv_at hl 2 rfl) ?_
        refine va_calli (va_runV (As := []) (rest := []) ⟨hx, hb, hml, hown, htC⟩ (c_MO_clear (D := D) (cs := cs) him hq) (cwV 0 htC (good_V wC_935 wC_936 wC_937 wC_50 wC_938) rfl rfl rfl (by decide +kernel) ⟨(show 0 + 1 ≤ 2048 by decide), (show 8 + (3 + 11) + 0 ≤ 84000 by decide)⟩) ⟨mP_blind, va_recv hK hM (ci := 5) (q0 := 0) rfl (wd_at (by decide) rfl), fun U hU hW => ⟨rfl, by rw [hU]; exact hM, va_K.moved hW.alike hK, hN.warm hW⟩⟩ rfl rfl hl.1 rfl (lv_room (Nat.le_of_ble_eq_true rfl)) d_LW_law_496 ⟨(show _ + 0 ≤ 601024 by omega), (show _ + 0 ≤ 7293034 by omega)⟩) hS (fun q _ h => hAP.Am q h) hAP.Am (fun r55 s56 t H locs ht0 hvm hq hB hz1 hk1 hS => ?_)
        obtain ⟨hM, -, -⟩ := hB
        rw [ht0] at hM
        have hP := wd_kept hP hAP.c hk1
        have hO := keep_o hO hAP.2.2.2.2.2.1.1 hk1
        have hG := keep_o hG hAP.2.2.2.2.2.1.2 hk1
        refine lv_pop hx hb d_LW_law_499 rfl ?_
        refine lv_goto (tgt := 531) hx hb d_LW_law_500 (by decide) ?_
        refine lv_iinc (v := i + 5) (lv' := [(5, .int (i + 5)), (0, .ref b), (1, .ref (ad 0)), (2, .ref (am 0)), (3, .ref o1), (4, .ref o2)]) hx hb d_LW_law_531 hl (k := 5) rfl rfl (by decide) rfl (fun ls hl => ?_)
        refine lv_goto (tgt := 28) hx hb d_LW_law_534 (by decide) ?_
        exact ih (i + 5) s54 s56 f g _ _ _ _ ls (by omega) (by omega) hq hP hM hO hG hS (lv_sub hl [1, 2, 3, 4, 5, 0] rfl)
      have hq := hq.2 c52
      by_cases c57 : ((xs (i.toNatClampNeg)) &&& 15) = 9
      · have hq := hq.1 c57
        refine lv_tableIn (tgt := 503) hx hb d_LW_law_44 (by rw [c57]; decide) (by rw [c57]; decide) (by rw [c57]; rfl) (by decide) ?_
        refine lv_aload_n hx hb d_LW_law_503 rfl (lv_at hl 1 rfl) ?_
        refine lv_aload_n hx hb d_LW_law_504 rfl (lv_at hl 0 rfl) ?_
        refine lv_iload hx hb d_LW_law_505 (lv_at hl 5 rfl) ?_
        refine lv_iconst (v := 1) hx hb d_LW_law_507 (by decide) ?_
        refine lv_iadd hx hb d_LW_law_508 ?_
        refine va_sld hx hb hX hbl hbA hS hq.1 d_LW_law_509 ?_
        have hq := hq.2
        refine lv_aload_n hx hb d_LW_law_510 rfl (lv_at hl 3 rfl) ?_
        refine va_calli (vx_runSW (As := [.ref (ad 0), .int (xs ((i + 1).toNatClampNeg)), .ref o1]) (rest := []) ⟨hx, hb, hml, hown, htC⟩ (c_LW_count hst (D := D) (cs := cs) (cL := cL) hi hAP.2.2.2.2.1.1 hq) (vx_cwSW 3 htC (good_S wC_668 wC_669 wC_43 wC_670) rfl rfl rfl (by decide +kernel) ⟨(show 7 + 1 ≤ 2048 by decide), (show 8 + (4 + 11) + 111 ≤ 84000 by decide)⟩) ⟨hPre_blind, fun U hU hW => ⟨rfl, by rw [hU]; exact hP.app hO, va_K.moved hW.alike hKL, hN.warm hW, (hXW.to hS hU hW).narrow hAP.A1, hNC.moved hW.alike⟩⟩ rfl rfl hl.1 rfl (lv_room (Nat.le_of_ble_eq_true rfl)) d_LW_law_511 ⟨(show _ + 1 ≤ 601024 by omega), (show _ + 6 ≤ 7293034 by omega)⟩) hS (fun q _ h => hAP.A1 q h) hAP.A1 (fun r58 u t H locs ht0 hvm hq hB hz1 hk1 hS => ?_)
        obtain ⟨s59, f60⟩ := u
        have hB : va_P D clA _ t.heap := hB
        rw [ht0] at hB
        have hM := wd_kept hM hAP.m1 hk1
        have hG := keep_o hG hAP.x1 hk1
        have hO := app_r hB
        have hP := app_l hB
        refine lv_istore (lv' := [(6, .int r58), (0, .ref b), (1, .ref (ad 0)), (2, .ref (am 0)), (3, .ref o1), (4, .ref o2), (5, .int i)]) hx hb d_LW_law_514 hl (by decide) rfl (fun ls hl => ?_)
        refine lv_aload_n hx hb d_LW_law_516 rfl (lv_at hl 3 rfl) ?_
        refine lv_aload_n hx hb d_LW_law_517 rfl (lv_at hl 1 rfl) ?_
        refine lv_iload hx hb d_LW_law_518 (lv_at hl 6 rfl) ?_
        refine lv_iconst (v := 1) hx hb d_LW_law_520 (by decide) ?_
        refine lv_iadd hx hb d_LW_law_521 ?_
        refine va_sld hx hb hX hbl hbA hS hq.1 d_LW_law_522 ?_
        have hq := hq.2
        refine va_calli (va_runV (As := [.int (xs ((i + 1).toNatClampNeg))]) (rest := []) ⟨hx, hb, hml, hown, htC⟩ (c_MO_count (D := D) (cs := cs) him hq) (cwV 1 htC (good_V wC_939 wC_940 wC_941 wC_50 wC_942) rfl rfl rfl (by decide +kernel) ⟨(show 1 + 1 ≤ 2048 by decide), (show 8 + (2 + 11) + 22 ≤ 84000 by decide)⟩) ⟨mP_blind, va_recv hK hM (ci := 5) (q0 := 0) rfl (wd_at (by decide) rfl), fun U hU hW => ⟨rfl, by rw [hU]; exact hM, va_K.moved hW.alike hK, hN.warm hW⟩⟩ rfl rfl hl.1 rfl (lv_room (Nat.le_of_ble_eq_true rfl)) d_LW_law_523 ⟨(show _ + 0 ≤ 601024 by omega), (show _ + 0 ≤ 7293034 by omega)⟩) hS (fun q _ h => hAP.Am q h) hAP.Am (fun r61 s62 t H locs ht0 hvm hq hB hz1 hk1 hS => ?_)
        obtain ⟨hM, -, -⟩ := hB
        rw [ht0] at hM
        have hP := wd_kept hP hAP.c hk1
        have hO := keep_o hO hAP.2.2.2.2.2.1.1 hk1
        have hG := keep_o hG hAP.2.2.2.2.2.1.2 hk1
        refine lv_istore (lv' := [(7, .int r61), (6, .int r58), (0, .ref b), (1, .ref (ad 0)), (2, .ref (am 0)), (3, .ref o1), (4, .ref o2), (5, .int i)]) hx hb d_LW_law_526 hl (by decide) rfl (fun ls hl => ?_)
        refine lv_goto (tgt := 531) hx hb d_LW_law_528 (by decide) ?_
        refine lv_iinc (v := i + 5) (lv' := [(5, .int (i + 5)), (7, .int r61), (6, .int r58), (0, .ref b), (1, .ref (ad 0)), (2, .ref (am 0)), (3, .ref o1), (4, .ref o2)]) hx hb d_LW_law_531 hl (k := 7) rfl rfl (by decide) rfl (fun ls hl => ?_)
        refine lv_goto (tgt := 28) hx hb d_LW_law_534 (by decide) ?_
        exact ih (i + 5) s59 s62 f60 g _ _ _ _ ls (by omega) (by omega) hq hP hM hO hG hS (lv_sub hl [3, 4, 5, 6, 7, 0] rfl)
      have hq := hq.2 c57
      refine cw_tabD (tgt := 531) hx hb d_LW_law_44 (by decide) ?_ ?_
      · have e_c2 := lv_neT c2 (a := 0) rfl; have e_c8 := lv_neT c8 (a := 1) rfl; have e_c16 := lv_neT c16 (a := 2) rfl; have e_c22 := lv_neT c22 (a := 3) rfl; have e_c28 := lv_neT c28 (a := 4) rfl; have e_c34 := lv_neT c34 (a := 5) rfl; have e_c40 := lv_neT c40 (a := 6) rfl; have e_c46 := lv_neT c46 (a := 7) rfl; have e_c52 := lv_neT c52 (a := 8) rfl; have e_c57 := lv_neT c57 (a := 9) rfl
        have g3 : ((xs (i.toNatClampNeg)) &&& 15).toInt < 0 ∨ 9 < ((xs (i.toNatClampNeg)) &&& 15).toInt := by omega
        exact g3.elim Or.inl (fun g => Or.inr (Or.inl g))
      refine lv_iinc (v := i + 5) (lv' := [(5, .int (i + 5)), (0, .ref b), (1, .ref (ad 0)), (2, .ref (am 0)), (3, .ref o1), (4, .ref o2)]) hx hb d_LW_law_531 hl (k := 5) rfl rfl (by decide) rfl (fun ls hl => ?_)
      refine lv_goto (tgt := 28) hx hb d_LW_law_534 (by decide) ?_
      exact ih (i + 5) σ τ f g _ _ _ _ ls (by omega) (by omega) hq hP hM hO hG hS (lv_sub hl [1, 2, 3, 4, 5, 0] rfl)
