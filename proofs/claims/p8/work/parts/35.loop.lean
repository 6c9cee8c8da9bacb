theorem lgz {x : Int64} : lg_cmp x x = 0 := by
  unfold lg_cmp
  rw [if_neg (fun h => absurd (Int64.lt_iff_toInt_lt.mp h) (Int.lt_irrefl _)), if_pos rfl]
theorem eighth_no (x : Int32) : vf_n64 (FP.dmul (FP.i2d x) 4593671619917905920) := Jvm.Free.Fl.dmul_out (Jvm.Free.Fl.i2d_fin x) (by unfold Jvm.Free.Fl.Fin64; decide)
theorem eqD {a b : UInt64} {P : Prop} (e : a = b) (h : P) : (((Op.cmpValue (FP.dcmp a b) .l) = 0 → P) ∧ (¬ (Op.cmpValue (FP.dcmp a b) .l) = 0 → (((Op.cmpValue (FP.dcmp a a) .l) = 0 → False) ∧ (¬ (Op.cmpValue (FP.dcmp a a) .l) = 0 → (((Op.cmpValue (FP.dcmp b b) .l) = 0 → False) ∧ (¬ (Op.cmpValue (FP.dcmp b b) .l) = 0 → P)))))) := by
  subst e
  exact ⟨fun _ => h, fun n => ⟨fun y => absurd y n, fun n => ⟨fun y => absurd y n, fun _ => h⟩⟩⟩
theorem law_all {L : Nat} (hL : L ≤ 2560) (xs : Nat → Int32) (k : Nat) : ∀ (i : Int32), 0 ≤ i.toInt → (i.toInt ≤ 2565 ∧ (L : Int) ≤ i.toInt + 5 * k + 4) → ∀ (σ τ : CS) (f : Nat → Int64) (g : Nat → UInt64), JJ σ τ → lp_law L xs (k + 1) i σ τ f g := by
  have eL : (Int32.ofNat L - 5).toInt = (L : Int) - 5 := by
    rw [Int32.toInt_sub, show (5 : Int32).toInt = 5 from rfl, Int32.toInt_ofNat', show Int32.size = 4294967296 from rfl, Int.bmod_eq_of_le (n := (L : Int)) (by omega) (by omega), Int.bmod_eq_of_le (by omega) (by omega)]
  induction k with
  | zero =>
    intro i hi hb σ τ f g j
    unfold lp_law
    refine tk ?_ trivial
    rw [Int32.lt_iff_toInt_lt, eL]
    omega
  | succ k ih =>
    intro i hi hb σ τ f g j
    unfold lp_law
    refine ⟨fun _ => trivial, fun hl => ?_⟩
    rw [Int32.lt_iff_toInt_lt, eL] at hl
    have ad : ∀ (c : Int32), 0 ≤ c.toInt → c.toInt ≤ 5 → (i + c).toInt = i.toInt + c.toInt := fun c h1 h2 => by
      rw [Int32.toInt_add, Int.bmod_eq_of_le (by omega) (by omega)]
    have z0 : (0 : Int32).toInt = 0 := rfl
    have vi : ∀ (c : Int32), 0 ≤ c.toInt → c.toInt ≤ 4 → vp_in (i + c) L := fun c h1 h2 => by
      have e := ad c h1 (by omega)
      refine vin ?_ (by omega)
      rw [Int32.lt_iff_toInt_lt]
      omega
    have v0 : vp_in i L := by
      refine vin ?_ (by omega)
      rw [Int32.lt_iff_toInt_lt]
      omega
    have v1 := vi 1 (by decide) (by decide)
    have v2 := vi 2 (by decide) (by decide)
    have v3 := vi 3 (by decide) (by decide)
    have v4 := vi 4 (by decide) (by decide)
    have e5 := ad 5 (by decide) (by decide)
    have f5 : (5 : Int32).toInt = 5 := rfl
    have n1 : 0 ≤ (i + 5).toInt := by omega
    have n2 : (i + 5).toInt ≤ 2565 ∧ (L : Int) ≤ (i + 5).toInt + 5 * k + 4 := by omega
    refine ⟨v0, fun _ => ⟨v1, v2, v3, v4, cq_make j (fun r s f W => ⟨v1, v2, v3, v4, W _ (fun r' t jj ht he => ?m0)⟩)⟩, fun _ => ⟨fun _ => ⟨v1, v2, v3, v4, cq_procedure j (fun r s W => ⟨v1, v2, v3, v4, W _ (fun t jj ht => ?m1)⟩)⟩, fun _ => ⟨fun _ => ⟨v1, v2, v3, v4, cq_bounds j (fun r s f W => ⟨v1, v2, v3, v4, W _ (fun r' t jj ht he => ?m2)⟩)⟩, fun _ => ⟨fun _ => ⟨v1, v2, eighth_no _, cq_put j (fun r s f W => ⟨v1, v2, eighth_no _, W _ (fun r' t jj ht he => ?m3)⟩)⟩, fun _ => ⟨fun _ => ⟨v1, cq_work j (fun r s f W => ⟨v1, W _ (fun r' t jj => ?m4)⟩)⟩, fun _ => ⟨fun _ => ⟨v1, cq_variable j (fun r s f W => ⟨v1, W _ (fun r' t jj ht he => ?m5)⟩)⟩, fun _ => ⟨fun _ => ⟨v1, v2, cq_element j (fun r s f W => ⟨v1, v2, W _ (fun r' t jj ht he => ?m6)⟩)⟩, fun _ => ⟨fun _ => ⟨v1, v2, cq_node j (fun r s f W => ⟨v1, v2, W _ (fun r' t jj ht he => ?m7)⟩)⟩, fun _ => ⟨fun _ => cq_clear j (fun r s t jj => ?m8), fun _ => ⟨fun _ => ⟨v1, cq_count j (fun r s f W => ⟨v1, W _ (fun r' t jj => ?m9)⟩)⟩, fun _ => ih _ n1 n2 _ _ _ _ j⟩⟩⟩⟩⟩⟩⟩⟩⟩⟩
    case m0 => exact ih _ n1 n2 _ _ _ _ jj
    case m1 => exact ih _ n1 n2 _ _ _ _ jj
    case m2 => exact ih _ n1 n2 _ _ _ _ jj
    case m3 => exact ih _ n1 n2 _ _ _ _ jj
    case m4 => exact ih _ n1 n2 _ _ _ _ jj
    case m5 => exact ih _ n1 n2 _ _ _ _ jj
    case m6 => exact tk ht (by
      by_cases c : r = 0
      · exact tk c (eqD (he c) (ih _ n1 n2 _ _ _ _ jj))
      · exact sk c (ih _ n1 n2 _ _ _ _ jj))
    case m7 => exact ih _ n1 n2 _ _ _ _ jj
    case m8 => exact ih _ n1 n2 _ _ _ _ jj
    case m9 => exact ih _ n1 n2 _ _ _ _ jj
theorem whole_start {p : Program} {e : Env} {s : State} {m : MethodId} {below : List Frame} {meth : Method} {c : Code} (l : Launch) (hst : l.stackTraces = false) {b L : Nat} {xs : Nat → Int32} (hL : L ≤ 2560) (C0 : lw_At p s m meth c b L xs) : W p l e room_1 s m #[Value.ref b] below meth c s.heap [] 0 0 (lw_Z below #[Value.ref b] s) (entryFrame m ([Value.ref b] : List Value).toArray 9) := by
  have z : (0 : Int32).toInt = 0 := rfl
  exact law_start hst ⟨512 + 1, by omega, law_all hL xs 512 0 (by omega) (by omega) sig0 tau0 _ _ JJ0⟩ C0
