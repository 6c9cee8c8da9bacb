/-! A world by numbers: cell k lies at ad k and holds ct k, for k below n -/
def wd (ad : Nat → Nat) (ct : Nat → va_E) (n : Nat) : va_W := (List.range n).map (fun k => (ad k, ct k))
/-- the addresses are apart -/
def aI (ad : Nat → Nat) (n : Nat) : Prop := ∀ i j : Nat, i < n → j < n → ad i = ad j → i = j
/-- the world's own addresses -/
def aK (ad : Nat → Nat) (n : Nat) : Nat → Prop := fun q => ∃ k : Nat, k < n ∧ q = ad k
theorem wd_at {ad : Nat → Nat} {ct : Nat → va_E} {n k : Nat} {e : va_E} (hk : k < n) (he : ct k = e) : (wd ad ct n)[k]? = some (ad k, e) := by
  subst he
  unfold wd
  rw [List.getElem?_map, List.getElem?_range hk]
  rfl
theorem wd_len {ad : Nat → Nat} {ct : Nat → va_E} {n : Nat} : (wd ad ct n).length = n := by simp [wd]
theorem wd_lt {ad : Nat → Nat} {ct : Nat → va_E} {n k : Nat} {q : Nat × va_E} (h : (wd ad ct n)[k]? = some q) : k < n := by
  have h1 := (List.getElem?_eq_some_iff.mp h).1
  rwa [wd_len] at h1
theorem wd_inv {ad : Nat → Nat} {ct : Nat → va_E} {n k : Nat} {q : Nat × va_E} (h : (wd ad ct n)[k]? = some q) : k < n ∧ q = (ad k, ct k) := by
  have hk := wd_lt h
  rw [wd_at hk rfl] at h
  exact ⟨hk, (Option.some.inj h).symm⟩
theorem wd_none {ad : Nat → Nat} {ct : Nat → va_E} {n k : Nat} (h : n ≤ k) : (wd ad ct n)[k]? = none := List.getElem?_eq_none (by rw [wd_len]; exact h)
theorem wd_set {ad : Nat → Nat} {ct : Nat → va_E} {n k : Nat} {v : va_E} (hk : k < n) : (wd ad ct n).set k (ad k, v) = wd ad (va_up ct k v) n := by
  apply List.ext_getElem?
  intro i
  rw [List.getElem?_set]
  by_cases hi : i < n
  · rw [wd_at hi rfl, wd_at hi rfl, wd_len]
    by_cases h : k = i
    · subst h
      rw [if_pos rfl, if_pos hk, va_up_self]
    · rw [if_neg h, va_up_ne _ _ (fun z => h z.symm)]
  · rw [wd_none (Nat.le_of_not_lt hi), wd_none (Nat.le_of_not_lt hi), if_neg (fun z => hi (by rw [← z]; exact hk))]
theorem wd_D {ad : Nat → Nat} {ct : Nat → va_E} {n : Nat} (h : aI ad n) : va_D (aK ad n) (wd ad ct n) := by
  refine ⟨fun i j p q hp hq e => ?_, fun k q hq => ?_⟩
  · obtain ⟨h1, rfl⟩ := wd_inv hp
    obtain ⟨h2, rfl⟩ := wd_inv hq
    exact h i j h1 h2 e
  · obtain ⟨h1, rfl⟩ := wd_inv hq
    exact ⟨k, h1, rfl⟩
theorem wd_P {D : va_G} {cl : List vw_C} {ad : Nat → Nat} {ct : Nat → va_E} {n : Nat} {H : Heap} (h : ∀ k : Nat, k < n → va_at D cl (ad k, ct k) H) : va_P D cl (wd ad ct n) H := by
  intro k q hq
  obtain ⟨h1, rfl⟩ := wd_inv hq
  exact h k h1
theorem wd_Pk {D : va_G} {cl : List vw_C} {ad : Nat → Nat} {ct : Nat → va_E} {n : Nat} {H : Heap} (h : va_P D cl (wd ad ct n) H) {k : Nat} (hk : k < n) : va_at D cl (ad k, ct k) H := h k _ (wd_at hk rfl)
/-- a callee that had one cell of the world -/
theorem wd_call {D : va_G} {cl : List vw_C} {ad : Nat → Nat} {ct : Nat → va_E} {n k : Nat} {e : va_E} {H H1 : Heap} (hP : va_P D cl (wd ad ct n) H) (hi : aI ad n) (hk : k < n) (h1 : va_P D cl [(ad k, e)] H1) (hs : ∀ q : Nat, q < H.size → q ≠ ad k → H1[q]? = H[q]?) : va_P D cl (wd ad (va_up ct k e) n) H1 := by
  refine wd_P fun j hj => ?_
  by_cases h : j = k
  · subst h
    rw [va_up_self]
    exact h1 0 _ rfl
  · rw [va_up_ne _ _ h]
    have hj1 := wd_Pk hP hj
    exact hj1.kept (hs _ hj1.lt (fun z => h (hi j k hj hk z)))
theorem vp_lt {i : Int32} {n : Nat} (h : vp_in i n) : i.toNatClampNeg < n := Nat.not_le.mp fun q => h (Or.inr q)
/-- an int that a boolean may be -/
def vp_z (r : Int32) : Prop := narrow .boolean (.int r) = .int r
theorem vp_z0 : vp_z 0 := rfl
theorem vp_z1 : vp_z 1 := rfl
section CW
variable {p : Program} {l : Launch} {e : Env} {R : Room} {s : State} {m : MethodId} {args : Array Value} {below : List Frame} {meth : Method} {c : Code} {H : Heap} {locs : List Loc} {cells slots : Nat} {Q : State → Prop}
variable {cc : ByteArray} {pc : Nat} {ls : Array Slot} {rest : List Value} {D : va_G} {cl : List vw_C} {tys : List (ClassId × FieldType)} {H0 : Heap} {ad : Nat → Nat} {ct : Nat → va_E} {n : Nat}
theorem cw_get (hexec : p.tables.exec = Jvm.exec) (hb : c.code = cc) {own C : String} {T : u_T} {N ci index : Nat} {Ts : List Cond} (hts : ∀ w ∈ Ts, w.before args s = true) (hin : ∀ w ∈ u_ws C T N, w ∈ Ts) (hown : s.vm.findClass own = some m.cls) (hK : va_K D cl tys s) (hP : va_P D cl (wd ad ct n) H) (q0 : Nat) (hq : q0 < n) {fs : List Value} (he : ct q0 = .inr (ci, fs)) (hc : cl[ci]? = some (C, T, N)) (k : Nat) (hk : k < N) (hlink : (Cond.fieldLink own index (T k).1 (T k).2.1 (T k).2.2.1).before args s = true) {v : Value} (hv : fs[k]? = some v) (hdg : decode cc pc = .ok (.getfield index, 3))
    (kk : W p l e R s m args below meth c H locs cells slots Q (F0 m (pc + 3) ls (v :: rest))) : W p l e R s m args below meth c H locs cells slots Q (F0 m pc ls (.ref (ad q0) :: rest)) :=
  va_get hexec hb hts hin hown hK hP q0 (wd_at hq he) hc k hk hlink (fun _ h => h) hv hdg kk
theorem cw_put (hexec : p.tables.exec = Jvm.exec) (hb : c.code = cc) {own C : String} {T : u_T} {N ci index : Nat} {Ts : List Cond} (hts : ∀ w ∈ Ts, w.before args s = true) (hin : ∀ w ∈ u_ws C T N, w ∈ Ts) (ty0 : Nat → FieldType) (hty : ∀ k, k < N → parseFieldDescriptor (T k).2.2.1 = some (ty0 k)) (hnm : ∀ a, a < N → ∀ b, b < N → a ≠ b → (T a).2.1 ≠ (T b).2.1) (hown : s.vm.findClass own = some m.cls) (hK : va_K D cl tys s) (hP : va_P D cl (wd ad ct n) H) (hi : aI ad n) (hS0 : va_S (aK ad n) H0 H locs) (q0 : Nat) (hq : q0 < n) {fs : List Value} (he : ct q0 = .inr (ci, fs)) (hc : cl[ci]? = some (C, T, N)) (k : Nat) (hk : k < N) (hlink : (Cond.fieldLink own index (T k).1 (T k).2.1 (T k).2.2.1).before args s = true) (hfin : (T k).2.2.2 = false) {ty : FieldType} {v : Value} (hd : parseFieldDescriptor (T k).2.2.1 = some ty) (hn : narrow ty v = v) (hfit : fits ty v = true) (hl : k < fs.length) {ct' : Nat → va_E} (hu : va_up ct q0 (.inr (ci, fs.set k v)) = ct')
    (hdg : decode cc pc = .ok (.putfield index, 3)) (kk : ∀ (H1 : Heap) (locs1 : List Loc), va_P D cl (wd ad ct' n) H1 → va_S (aK ad n) H0 H1 locs1 → W p l e R s m args below meth c H1 locs1 cells slots Q (F0 m (pc + 3) ls rest)) : W p l e R s m args below meth c H locs cells slots Q (F0 m pc ls (v :: .ref (ad q0) :: rest)) := by
  refine va_put hexec hb hts hin ty0 hty hnm hown hK hP (wd_D hi) hS0 q0 (wd_at hq he) hc k hk hlink (fun _ h => h) hfin hd hn hfit hl hdg (fun H1 locs1 h1 _ h3 => kk H1 locs1 ?_ h3)
  rw [wd_set hq, hu] at h1
  exact h1
theorem cw_iald (hexec : p.tables.exec = Jvm.exec) (hb : c.code = cc) (hK : va_K D cl tys s) (hP : va_P D cl (wd ad ct n) H) (q0 : Nat) (hq : q0 < n) {cA : ClassId} {N : Nat} {f : Nat → Int32} (he : ct q0 = .inl (cA, N, .inl f)) (t0 : Nat) (ht : tys[t0]? = some (cA, .int)) {i : Int32} (hin : vp_in i N) (hdg : decode cc pc = .ok (.iaload, 1))
    (kk : W p l e R s m args below meth c H locs cells slots Q (F0 m (pc + 1) ls (.int (f i.toNatClampNeg) :: rest))) : W p l e R s m args below meth c H locs cells slots Q (F0 m pc ls (.int i :: .ref (ad q0) :: rest)) :=
  va_iald hexec hb hK hP q0 t0 (wd_at hq he) ht hin hdg kk
theorem cw_dald (hexec : p.tables.exec = Jvm.exec) (hb : c.code = cc) (hK : va_K D cl tys s) (hP : va_P D cl (wd ad ct n) H) (q0 : Nat) (hq : q0 < n) {cA : ClassId} {N : Nat} {f : Nat → UInt64} (he : ct q0 = .inl (cA, N, .inr (.inr (.inr (.inl f))))) (t0 : Nat) (ht : tys[t0]? = some (cA, .double)) {i : Int32} (hin : vp_in i N) (hdg : decode cc pc = .ok (.daload, 1))
    (kk : W p l e R s m args below meth c H locs cells slots Q (F0 m (pc + 1) ls (.double (f i.toNatClampNeg) :: rest))) : W p l e R s m args below meth c H locs cells slots Q (F0 m pc ls (.int i :: .ref (ad q0) :: rest)) :=
  va_dald hexec hb hK hP q0 t0 (wd_at hq he) ht hin hdg kk
theorem cw_aldq (hexec : p.tables.exec = Jvm.exec) (hb : c.code = cc) (hK : va_K D cl tys s) (hP : va_P D cl (wd ad ct n) H) (q0 : Nat) (hq : q0 < n) {cA : ClassId} {N : Nat} {C : String} {f : Nat → Nat} (he : ct q0 = .inl (cA, N, .inr (.inr (.inr (.inr (fun j => some (f j))))))) (t0 : Nat) (ht : tys[t0]? = some (cA, .object C)) {i : Int32} (hin : vp_in i N) (hdg : decode cc pc = .ok (.aaload, 1))
    (kk : W p l e R s m args below meth c H locs cells slots Q (F0 m (pc + 1) ls (.ref (f i.toNatClampNeg) :: rest))) : W p l e R s m args below meth c H locs cells slots Q (F0 m pc ls (.int i :: .ref (ad q0) :: rest)) :=
  va_aldq hexec hb hK hP q0 t0 (wd_at hq he) ht hin hdg kk
theorem cw_iast (hexec : p.tables.exec = Jvm.exec) (hb : c.code = cc) (hK : va_K D cl tys s) (hP : va_P D cl (wd ad ct n) H) (hi : aI ad n) (hS : va_S (aK ad n) H0 H locs) (q0 : Nat) (hq : q0 < n) {cA : ClassId} {N : Nat} {f : Nat → Int32} (he : ct q0 = .inl (cA, N, .inl f)) (t0 : Nat) (ht : tys[t0]? = some (cA, .int)) {i x : Int32} (hin : vp_in i N) {ct' : Nat → va_E} (hu : va_up ct q0 (.inl (cA, N, .inl (upd f i.toNatClampNeg x))) = ct') (hdg : decode cc pc = .ok (.iastore, 1))
    (kk : ∀ (H1 : Heap) (locs1 : List Loc), va_P D cl (wd ad ct' n) H1 → va_S (aK ad n) H0 H1 locs1 → W p l e R s m args below meth c H1 locs1 cells slots Q (F0 m (pc + 1) ls rest)) : W p l e R s m args below meth c H locs cells slots Q (F0 m pc ls (.int x :: .int i :: .ref (ad q0) :: rest)) := by
  refine va_iast hexec hb hK hP (wd_D hi) hS q0 t0 (wd_at hq he) ht hin hdg (fun H1 locs1 h1 _ h3 => kk H1 locs1 ?_ h3)
  rw [wd_set hq, hu] at h1
  exact h1
theorem cw_dast (hexec : p.tables.exec = Jvm.exec) (hb : c.code = cc) (hK : va_K D cl tys s) (hP : va_P D cl (wd ad ct n) H) (hi : aI ad n) (hS : va_S (aK ad n) H0 H locs) (q0 : Nat) (hq : q0 < n) {cA : ClassId} {N : Nat} {f : Nat → UInt64} (he : ct q0 = .inl (cA, N, .inr (.inr (.inr (.inl f))))) (t0 : Nat) (ht : tys[t0]? = some (cA, .double)) {i : Int32} {x : UInt64} (hin : vp_in i N) {ct' : Nat → va_E} (hu : va_up ct q0 (.inl (cA, N, .inr (.inr (.inr (.inl (vf_upd f i.toNatClampNeg x)))))) = ct') (hdg : decode cc pc = .ok (.dastore, 1))
    (kk : ∀ (H1 : Heap) (locs1 : List Loc), va_P D cl (wd ad ct' n) H1 → va_S (aK ad n) H0 H1 locs1 → W p l e R s m args below meth c H1 locs1 cells slots Q (F0 m (pc + 1) ls rest)) : W p l e R s m args below meth c H locs cells slots Q (F0 m pc ls (.double x :: .int i :: .ref (ad q0) :: rest)) := by
  refine va_dast hexec hb hK hP (wd_D hi) hS q0 t0 (wd_at hq he) ht hin hdg (fun H1 locs1 h1 _ h3 => kk H1 locs1 ?_ h3)
  rw [wd_set hq, hu] at h1
  exact h1
theorem cw_alen (hexec : p.tables.exec = Jvm.exec) (hb : c.code = cc) (hK : va_K D cl tys s) (hP : va_P D cl (wd ad ct n) H) (q0 : Nat) (hq : q0 < n) {cA : ClassId} {x : vp_A} (he : ct q0 = .inl (cA, x)) (t0 : Nat) {ty : FieldType} (ht : tys[t0]? = some (cA, ty)) {v : Int32} (hv : Int32.ofNat x.1 = v) (hdg : decode cc pc = .ok (.arraylength, 1))
    (kk : W p l e R s m args below meth c H locs cells slots Q (F0 m (pc + 1) ls (.int v :: rest))) : W p l e R s m args below meth c H locs cells slots Q (F0 m pc ls (.ref (ad q0) :: rest)) :=
  va_alen hexec hb hK hP q0 t0 (wd_at hq he) ht hv hdg kk
/-- a table's default: out of range, or at a place that leads there -/
theorem cw_tabD (hexec : p.tables.exec = Jvm.exec) (hb : c.code = cc) {dflt lo hi : Int} {offs : Array Int} {len : Nat} {x : Int32} {tgt : Nat} (hdg : decode cc pc = .ok (.tableswitch dflt lo hi offs, len)) (ht : (pc : Int) + dflt = (tgt : Int)) (h : x.toInt < lo ∨ hi < x.toInt ∨ offs[(x.toInt - lo).toNat]? = some dflt)
    (k : W p l e R s m args below meth c H locs cells slots Q (F0 m tgt ls rest)) : W p l e R s m args below meth c H locs cells slots Q (F0 m pc ls (.int x :: rest)) := by
  by_cases h1 : x.toInt < lo
  · exact lv_tableOut hexec hb hdg (Or.inl h1) ht k
  · by_cases h2 : hi < x.toInt
    · exact lv_tableOut hexec hb hdg (Or.inr h2) ht k
    · exact lv_tableIn hexec hb hdg h1 h2 ((h.resolve_left h1).resolve_left h2) ht k
end CW
