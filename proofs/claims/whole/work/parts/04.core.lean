/-! CORE: own form of a contract without makings (CT), its entry and its ends, heap rows, calls; worlds are explicit lists of cells -/
def nF (q : String × Nat × String × String × String × String) : Cond := .fieldLinkNest q.1 q.2.1 q.2.2.1 q.2.2.2.1 q.2.2.2.2.1 q.2.2.2.2.2
def nM (q : String × Nat × MethodName × String) : Cond := .methodLinkNest q.1 q.2.1 q.2.2.1 q.2.2.2
def nestF : List (String × Nat × String × String × String × String) := [(RX9, 83, RX5, "wealth", "[I", RX9), (RX9, 95, RX5, "given", "[I", RX9), (RX9, 152, RX5, "inside", "I", RX9), (RX9, 105, RX5, "next", "I", RX9), (RX9, 158, RX5, "year", "I", RX9), (RX6, 15, RX3, "of", "[I", RX9), (RX9, 277, RX3, "of", "[I", RX9), (RX9, 203, RX7, "size", "I", RX9), (RX8, 46, RX4, "kinds", "[I", RX9), (RX8, 54, RX4, "ones", "[I", RX9), (RX8, 57, RX4, "others", "[I", RX9), (RX8, 60, RX4, "amounts", "[I", RX9), (RX8, 41, RX4, "acts", "I", RX9), (RX9, 170, RX4, "acts", "I", RX9), (RX9, 120, RX4, "signs", "I", RX9), (RX9, 144, RX8, "parish", "LPoorTurns$Parish;", RX9), (RX9, 135, RX8, "wrongAct", "I", RX9), (RX9, 138, RX8, "reason", "I", RX9), (RX9, 141, RX8, "gifts", "I", RX9), (RX9, 164, RX8, "firstAct", "I", RX9), (RX9, 167, RX8, "firstHouse", "I", RX9), (RX9, 215, RX1, "fitting", "[I", RX9), (RX9, 214, RX1, "size", "I", RX9), (RX9, 221, RX1, "question", "I", RX9), (RX9, 224, RX1, "left", "I", RX9), (RX9, 263, RX2, "parish", "LPoorTurns$Parish;", RX9), (RX9, 264, RX2, "kinship", "LPoorTurns$Kinship;", RX9), (RX9, 267, RX2, "sights", "LPoorTurns$Sights;", RX9), (RX9, 270, RX2, "kept", "Z", RX9)]
def nestM : List (String × Nat × MethodName × String) := [(RX9, 9, yX5_init, RX9), (RX9, 18, yX3_init, RX9), (RX9, 25, yX7_init, RX9), (RX9, 32, yX4_init, RX9), (RX9, 39, yX8_init, RX9), (RX8, 11, yX5_init, RX9), (RX9, 46, yX0_init, RX9), (RX9, 53, yX6_init, RX9), (RX9, 60, yX1_init, RX9), (RX9, 67, yX2_init, RX9), (RX2, 9, yX5_init, RX9), (RX2, 18, yX3_init, RX9), (RX2, 25, yX7_init, RX9), (RX9, 87, yX5_setIn, RX9), (RX9, 101, yX5_rowNumber, RX9), (RX9, 109, yX5_setRow, RX9), (RX9, 113, yX3_set, RX9), (RX9, 117, yX3_pairs, RX9), (RX9, 123, yX4_hear, RX9), (RX9, 126, yX4_clear, RX9), (RX9, 129, yX4_faultPlace, RX9), (RX9, 280, yX8_play, RX9), (RX8, 18, yX5_copyFrom, RX9), (RX8, 50, yX5_houseAtNext, RX9), (RX8, 67, yX5_reasonAgainst, RX9), (RX8, 70, yX5_perform, RX9), (RX9, 145, yX5_isIn, RX9), (RX9, 148, yX5_placeOf, RX9), (RX9, 155, yX5_wealthInAll, RX9), (RX9, 161, yX5_poorest, RX9), (RX9, 173, yX5_copyFrom, RX9), (RX9, 177, yX5_dueOf, RX9), (RX9, 180, yX0_work, RX9), (RX0, 22, yX5_dueOf, RX9), (RX9, 183, yX0_payments, RX9), (RX9, 186, yX0_groups, RX9), (RX9, 189, yX6_work, RX9), (RX9, 192, yX6_howMany, RX9), (RX9, 195, yX6_least, RX9), (RX9, 206, yX7_add, RX9), (RX9, 210, yX1_findFitting, RX9), (RX1, 22, yX7_allow, RX9), (RX9, 218, yX1_findQuestion, RX9), (RX9, 256, yX8_begin, RX9), (RX9, 284, yX8_attempt, RX9), (RX9, 265, yX3_copyFrom, RX9), (RX9, 268, yX7_copyFrom, RX9)]
abbrev kT (cI cZ : ClassId) : List (ClassId × FieldType) := [(cI, .int), (cZ, .boolean)]
def kX (D : va_G) (cI cZ : ClassId) (U : State) : Prop := va_K D vwCl (kT cI cZ) U ∧ (∀ q ∈ nestF, va_Nw (nF q) U) ∧ ∀ q ∈ nestM, va_Nw (nM q) U
theorem kX.warm {D : va_G} {cI cZ : ClassId} {s U : State} (hW : s.WarmedH U.vm) (h : kX D cI cZ s) : kX D cI cZ U := ⟨va_K.moved hW.alike h.1, fun q hq => va_Nw.warmF hW (h.2.1 q hq), fun q hq => va_Nw.warmM hW (h.2.2 q hq)⟩
theorem kX.call {D : va_G} {cI cZ : ClassId} {U : State} (g : JFrame) (mk : MethodId) (a : Array Value) (h : kX D cI cZ U) : kX D cI cZ (U.calling g mk a) := ⟨va_K.moved (u := U) (U := U.calling g mk a) (Vm.Alike.refl U.vm) h.1, fun q hq => va_Nw.same (u := U) rfl rfl (h.2.1 q hq), fun q hq => va_Nw.same (u := U) rfl rfl (h.2.2 q hq)⟩
/-- the frame of a walk: machine, code, words, tables, what may be written -/
def kC (p : Program) (s : State) (m : MethodId) (args : Array Value) (meth : Method) (c : Code) (cc : ByteArray) (nL : Nat) (Ts : List Cond) (own : String) (D : va_G) (cI cZ : ClassId) (A : Nat → Prop) : Prop := CallFix p m c cc nL s args Ts own ∧ kX D cI cZ s ∧ (∀ q : Nat, s.heap.size ≤ q → A q) ∧ meth.locks = false
/-- the world: these cells, apart, and nothing else is written -/
def kW (D : va_G) (A : Nat → Prop) (s : State) (H : Heap) (locs : List Loc) (ws : va_W) : Prop := va_P D vwCl ws H ∧ va_D A ws ∧ va_S A s.heap H locs
def kQ (D : va_G) (W0 : va_W) (sz : Nat) (ret : Option Value) (W1 : va_W) : Array Value → State → Outcome → State → Prop := fun _ st oc t => (oc = .returned ret ∧ va_P D vwCl W1 t.heap) ∧ va_F (va_A W0 sz) st t
/-- the contract of a method that makes nothing: from the cells W0 it returns ret, the cells are W1, nothing else has changed -/
def CT (l : Launch) (D : va_G) (cI cZ : ClassId) (y : MethodName) (wy : List Cond) (rm : Room) (av : List Value) (W0 : va_W) (ret : Option Value) (W1 : va_W) : Prop :=
  ∀ sz : Nat, Met l y wy rm (va_Pc av (fun U => U.heap.size = sz ∧ va_P D vwCl W0 U.heap ∧ kX D cI cZ U ∧ va_D (fun _ => True) W0)) (kQ D W0 sz ret W1) 0 0 (va_A W0 sz)
theorem CT.intro {l : Launch} {D : va_G} {cI cZ : ClassId} {y : MethodName} {wy wy' : List Cond} {rm : Room} {av : List Value} {W0 W1 : va_W} {ret : Option Value} {cc : ByteArray} {nL : Nat} {rt : Option FieldType} (own : String) (hy : plainName y.cls = true) (hw : wy = Cond.code y cc nL rt :: wy') (hlen : (lg_sl av).length ≤ nL) (ho : y.cls = own)
    (body : ∀ (p : Program) (e : Env) (s : State) (m : MethodId) (below : List Frame) (meth : Method) (c : Code), kC p s m av.toArray meth c cc nL wy own D cI cZ (va_A W0 s.heap.size) → meth.sig.returnType = rt → kW D (va_A W0 s.heap.size) s s.heap [] W0 → ∀ ls : Array Slot, lv_has ls nL (lv_args 0 av) →
      W p l e rm s m av.toArray below meth c s.heap [] 0 0 (MQ below (kQ D W0 s.heap.size ret W1) av.toArray s 0 0 (va_A W0 s.heap.size)) (F0 m 0 ls [])) : CT l D cI cZ y wy rm av W0 ret W1 := by
  intro sz
  refine Met.ofW (cc := cc) (maxL := nL) (ret := rt) hy hw ?_
  intro p e s m args below meth c s₁ B hml hv
  obtain ⟨rfl, hsz, hP, hK, hD0⟩ := hv
  subst hsz
  have hts := atoms_spec (ws := wy) B.pre
  have hown : s.vm.findClass y.cls = some m.cls := findClass_of_methodNamed B.named
  rw [ho] at hown
  rw [lg_entry_eq]
  exact body p e s m below meth c ⟨⟨B.exec, B.bytes, hml, hown, hts⟩, hK, fun q h => Or.inr h, B.notSynchronized⟩ B.returns ⟨hP, hD0.self, va_S.rf⟩ _ (lv_entry av hlen)
theorem kD_adr {A : Nat → Prop} {ws ws' : va_W} (h : va_D A ws) (e : ws'.map Prod.fst = ws.map Prod.fst) : va_D A ws' := by
  have hk : ∀ (k : Nat) (q : Nat × va_E), ws'[k]? = some q → ∃ x, ws[k]? = some (q.1, x) := by
    intro k q hq
    have h1 : (ws'.map Prod.fst)[k]? = some q.1 := by rw [List.getElem?_map, hq]; rfl
    rw [e, List.getElem?_map] at h1
    cases hw : ws[k]? with
    | none => rw [hw] at h1; cases h1
    | some z =>
      rw [hw] at h1
      obtain ⟨z1, z2⟩ := z
      have h2 : z1 = q.1 := by simpa using h1
      exact ⟨z2, by rw [h2]⟩
  refine ⟨fun i j p q hi hj hpq => ?_, fun k q hq => ?_⟩
  · obtain ⟨x, hx⟩ := hk i p hi
    obtain ⟨y, hy⟩ := hk j q hj
    exact h.1 i j _ _ hx hy hpq
  · obtain ⟨x, hx⟩ := hk k q hq
    exact h.2 k (q.1, x) hx
def kset : va_W → List Nat → va_W → va_W
  | ws, i :: is, w :: w1 => kset (ws.set i w) is w1
  | ws, _, _ => ws
theorem kset_mem : ∀ (is : List Nat) (ws w1 : va_W) (k : Nat) (x : Nat × va_E), w1.length = is.length → (kset ws is w1)[k]? = some x → (∃ j : Nat, w1[j]? = some x) ∨ (ws[k]? = some x ∧ k ∉ is)
  | [], ws, w1, k, x, hl, h => by
    cases w1 with
    | nil => exact Or.inr ⟨h, List.not_mem_nil⟩
    | cons a b => simp at hl
  | i :: is, ws, w1, k, x, hl, h => by
    cases w1 with
    | nil => simp at hl
    | cons w w1 =>
      have hl' : w1.length = is.length := by simpa using hl
      rcases kset_mem is (ws.set i w) w1 k x hl' h with ⟨j, hj⟩ | ⟨h1, h2⟩
      · exact Or.inl ⟨j + 1, by simpa using hj⟩
      · rw [List.getElem?_set] at h1
        by_cases hik : i = k
        · rw [if_pos hik] at h1
          split at h1
          · exact Or.inl ⟨0, by simpa using h1⟩
          · cases h1
        · rw [if_neg hik] at h1
          exact Or.inr ⟨h1, by
            intro hm
            rcases List.mem_cons.mp hm with q | q
            · exact hik q.symm
            · exact h2 q⟩
theorem kset_adr : ∀ (is : List Nat) (ws w1 : va_W), is.map (fun i => (ws[i]?).map Prod.fst) = w1.map (fun w => some w.1) → (kset ws is w1).map Prod.fst = ws.map Prod.fst
  | [], ws, w1, h => by
    cases w1 with
    | nil => rfl
    | cons a b => rfl
  | i :: is, ws, w1, h => by
    cases w1 with
    | nil => rfl
    | cons w w1 =>
      have h' := h
      simp only [List.map_cons, List.cons.injEq] at h'
      have hs : (ws.set i w).map Prod.fst = ws.map Prod.fst := by
        apply List.ext_getElem?
        intro k
        rw [List.getElem?_map, List.getElem?_set, List.getElem?_map]
        by_cases hik : i = k
        · rw [if_pos hik]
          subst hik
          cases hw : ws[i]? with
          | none => rw [hw] at h'; cases h'.1
          | some z =>
            have hlt := (List.getElem?_eq_some_iff.mp hw).1
            rw [if_pos hlt]
            rw [hw] at h'
            exact h'.1.symm
        · rw [if_neg hik]
      show (kset (ws.set i w) is w1).map Prod.fst = ws.map Prod.fst
      rw [kset_adr is (ws.set i w) w1 ?_, hs]
      have : ∀ j : Nat, ((ws.set i w)[j]?).map Prod.fst = (ws[j]?).map Prod.fst := fun j => by rw [← List.getElem?_map, hs, List.getElem?_map]
      rw [← h'.2]
      exact List.map_congr_left (fun j _ => this j)
theorem kW_cast {D : va_G} {A : Nat → Prop} {s : State} {H : Heap} {locs : List Loc} {ws ws' : va_W} (h : ws = ws') (hw : kW D A s H locs ws) : kW D A s H locs ws' := h ▸ hw
theorem nz0 : narrow .boolean (.int 0) = .int 0 := by decide +kernel
theorem nz1 : narrow .boolean (.int 1) = .int 1 := by decide +kernel
section core
variable {p : Program} {l : Launch} {e : Env} {R : Room} {s : State} {m : MethodId} {args : Array Value} {below : List Frame} {meth : Method} {c : Code} {H : Heap} {locs : List Loc} {cells slots : Nat} {Q : State → Prop} {D : va_G} {cI cZ : ClassId} {A : Nat → Prop} {ws : va_W} {cc : ByteArray} {nL : Nat} {Ts : List Cond} {own : String} {ls : Array Slot} {rest st0 : List Value} {pc : Nat}
theorem kC.hx (C : kC p s m args meth c cc nL Ts own D cI cZ A) : p.tables.exec = Jvm.exec := C.1.1
theorem kC.hb (C : kC p s m args meth c cc nL Ts own D cI cZ A) : c.code = cc := C.1.2.1
theorem kC.hml (C : kC p s m args meth c cc nL Ts own D cI cZ A) : c.maxLocals = nL := C.1.2.2.1
theorem kC.hown (C : kC p s m args meth c cc nL Ts own D cI cZ A) : s.vm.findClass own = some m.cls := C.1.2.2.2.1
theorem kC.hts (C : kC p s m args meth c cc nL Ts own D cI cZ A) : ∀ w ∈ Ts, w.before args s = true := C.1.2.2.2.2
theorem k_get (C : kC p s m args meth c cc nL Ts own D cI cZ A) (hw : kW D A s H locs ws) {CC : String} {T : u_T} {N ci index a : Nat} (hin : ∀ w ∈ u_ws CC T N, w ∈ Ts) (q0 : Nat) {fs : List Value} (he : ws[q0]? = some (a, .inr (ci, fs))) (hc : vwCl[ci]? = some (CC, T, N)) (k : Nat) (hk : k < N) (hlink : Cond.fieldLink own index CC (T k).2.1 (T k).2.2.1 ∈ Ts) (hcc : (T k).1 = CC) {v : Value} (hv : fs[k]? = some v) (hdg : decode cc pc = .ok (.getfield index, 3))
    (kk : W p l e R s m args below meth c H locs cells slots Q (F0 m (pc + 3) ls (v :: rest))) : W p l e R s m args below meth c H locs cells slots Q (F0 m pc ls (.ref a :: rest)) :=
  va_get C.hx C.hb C.hts hin C.hown C.2.1.1 hw.1 q0 he hc k hk (C.hts _ hlink) (fun x hx => by rw [hcc] at hx; exact hx) hv hdg kk
theorem k_getN (C : kC p s m args meth c cc nL Ts own D cI cZ A) (hw : kW D A s H locs ws) {CC host : String} {T : u_T} {N ci index a : Nat} (hin : ∀ w ∈ u_ws CC T N, w ∈ Ts) (q0 : Nat) {fs : List Value} (he : ws[q0]? = some (a, .inr (ci, fs))) (hc : vwCl[ci]? = some (CC, T, N)) (k : Nat) (hk : k < N) (nw : Nat) (hlink : nestF[nw]? = some (own, index, CC, (T k).2.1, (T k).2.2.1, host)) (hcc : (T k).1 = CC) {v : Value} (hv : fs[k]? = some v) (hdg : decode cc pc = .ok (.getfield index, 3))
    (kk : W p l e R s m args below meth c H locs cells slots Q (F0 m (pc + 3) ls (v :: rest))) : W p l e R s m args below meth c H locs cells slots Q (F0 m pc ls (.ref a :: rest)) :=
  va_getN C.hx C.hb C.hts hin C.hown C.2.1.1 hw.1 q0 he hc k hk (va_Nw.use rfl (C.2.1.2.1 _ (List.mem_of_getElem? hlink))) (fun x hx => by rw [hcc] at hx; exact hx) hv hdg kk
theorem k_put (C : kC p s m args meth c cc nL Ts own D cI cZ A) (hw : kW D A s H locs ws) {CC : String} {T : u_T} {N ci index a : Nat} (hin : ∀ w ∈ u_ws CC T N, w ∈ Ts) {ty0 : Nat → FieldType} (hty : ∀ k, k < N → parseFieldDescriptor (T k).2.2.1 = some (ty0 k)) (hnm : ∀ a, a < N → ∀ b, b < N → a ≠ b → (T a).2.1 ≠ (T b).2.1) (q0 : Nat) {fs : List Value} (he : ws[q0]? = some (a, .inr (ci, fs))) (hc : vwCl[ci]? = some (CC, T, N)) (k : Nat) (hk : k < N) (hlink : Cond.fieldLink own index CC (T k).2.1 (T k).2.2.1 ∈ Ts) (hcc : (T k).1 = CC) (hfin : (T k).2.2.2 = false) {v : Value} (hn : narrow (ty0 k) v = v) (hfit : fits (ty0 k) v = true) (hl : k < fs.length) (hdg : decode cc pc = .ok (.putfield index, 3))
    (kk : ∀ (H1 : Heap) (locs1 : List Loc), kW D A s H1 locs1 (ws.set q0 (a, .inr (ci, fs.set k v))) → W p l e R s m args below meth c H1 locs1 cells slots Q (F0 m (pc + 3) ls rest)) : W p l e R s m args below meth c H locs cells slots Q (F0 m pc ls (v :: .ref a :: rest)) :=
  va_put C.hx C.hb C.hts hin ty0 hty hnm C.hown C.2.1.1 hw.1 hw.2.1 hw.2.2 q0 he hc k hk (C.hts _ hlink) (fun x hx => by rw [hcc] at hx; exact hx) hfin (hty k hk) hn hfit hl hdg (fun H1 locs1 hP hD hS => kk H1 locs1 ⟨hP, hD, hS⟩)
theorem k_putN (C : kC p s m args meth c cc nL Ts own D cI cZ A) (hw : kW D A s H locs ws) {CC host : String} {T : u_T} {N ci index a : Nat} (hin : ∀ w ∈ u_ws CC T N, w ∈ Ts) {ty0 : Nat → FieldType} (hty : ∀ k, k < N → parseFieldDescriptor (T k).2.2.1 = some (ty0 k)) (hnm : ∀ a, a < N → ∀ b, b < N → a ≠ b → (T a).2.1 ≠ (T b).2.1) (q0 : Nat) {fs : List Value} (he : ws[q0]? = some (a, .inr (ci, fs))) (hc : vwCl[ci]? = some (CC, T, N)) (k : Nat) (hk : k < N) (nw : Nat) (hlink : nestF[nw]? = some (own, index, CC, (T k).2.1, (T k).2.2.1, host)) (hcc : (T k).1 = CC) (hfin : (T k).2.2.2 = false) {v : Value} (hn : narrow (ty0 k) v = v) (hfit : fits (ty0 k) v = true) (hl : k < fs.length) (hdg : decode cc pc = .ok (.putfield index, 3))
    (kk : ∀ (H1 : Heap) (locs1 : List Loc), kW D A s H1 locs1 (ws.set q0 (a, .inr (ci, fs.set k v))) → W p l e R s m args below meth c H1 locs1 cells slots Q (F0 m (pc + 3) ls rest)) : W p l e R s m args below meth c H locs cells slots Q (F0 m pc ls (v :: .ref a :: rest)) :=
  va_putN C.hx C.hb C.hts hin ty0 hty hnm C.hown C.2.1.1 hw.1 hw.2.1 hw.2.2 q0 he hc k hk (va_Nw.use rfl (C.2.1.2.1 _ (List.mem_of_getElem? hlink))) (fun x hx => by rw [hcc] at hx; exact hx) hfin (hty k hk) hn hfit hl hdg (fun H1 locs1 hP hD hS => kk H1 locs1 ⟨hP, hD, hS⟩)
theorem k_iald (C : kC p s m args meth c cc nL Ts own D cI cZ A) (hw : kW D A s H locs ws) {a : Nat} (q0 : Nat) {n : Nat} {f : Nat → Int32} (ha : ws[q0]? = some (a, .inl (cI, n, .inl f))) {i : Int32} (hin : vp_in i n) (hdg : decode cc pc = .ok (.iaload, 1))
    (kk : W p l e R s m args below meth c H locs cells slots Q (F0 m (pc + 1) ls (.int (f i.toNatClampNeg) :: rest))) : W p l e R s m args below meth c H locs cells slots Q (F0 m pc ls (.int i :: .ref a :: rest)) :=
  va_iald C.hx C.hb C.2.1.1 hw.1 q0 0 ha rfl hin hdg kk
theorem k_ialdN (C : kC p s m args meth c cc nL Ts own D cI cZ A) (hw : kW D A s H locs ws) {a : Nat} (q0 : Nat) {n : Nat} {f : Nat → Int32} (ha : ws[q0]? = some (a, .inl (cI, n, .inl f))) {i : Int32} (j : Nat) (hi : i = nI j) (hj : j < n) (hn : n < 2 ^ 31) (hdg : decode cc pc = .ok (.iaload, 1))
    (kk : W p l e R s m args below meth c H locs cells slots Q (F0 m (pc + 1) ls (.int (f j) :: rest))) : W p l e R s m args below meth c H locs cells slots Q (F0 m pc ls (.int i :: .ref a :: rest)) := by
  subst hi
  refine va_iald C.hx C.hb C.2.1.1 hw.1 q0 0 ha rfl (vp_in_nI hj hn) hdg ?_
  rw [nI_clamp (Nat.lt_trans hj hn)]
  exact kk
theorem k_zald (C : kC p s m args meth c cc nL Ts own D cI cZ A) (hw : kW D A s H locs ws) {a : Nat} (q0 : Nat) {n : Nat} {f : Nat → Int32} (ha : ws[q0]? = some (a, .inl (cZ, n, .inl f))) {i : Int32} (hin : vp_in i n) (hdg : decode cc pc = .ok (.baload, 1))
    (kk : W p l e R s m args below meth c H locs cells slots Q (F0 m (pc + 1) ls (.int (f i.toNatClampNeg) :: rest))) : W p l e R s m args below meth c H locs cells slots Q (F0 m pc ls (.int i :: .ref a :: rest)) :=
  va_zald C.hx C.hb C.2.1.1 hw.1 q0 1 ha rfl hin hdg kk
theorem k_iast (C : kC p s m args meth c cc nL Ts own D cI cZ A) (hw : kW D A s H locs ws) {a : Nat} (q0 : Nat) {n : Nat} {f : Nat → Int32} (ha : ws[q0]? = some (a, .inl (cI, n, .inl f))) {i x : Int32} (hin : vp_in i n) (hdg : decode cc pc = .ok (.iastore, 1))
    (kk : ∀ (H1 : Heap) (locs1 : List Loc), kW D A s H1 locs1 (ws.set q0 (a, .inl (cI, n, .inl (upd f i.toNatClampNeg x)))) → W p l e R s m args below meth c H1 locs1 cells slots Q (F0 m (pc + 1) ls rest)) : W p l e R s m args below meth c H locs cells slots Q (F0 m pc ls (.int x :: .int i :: .ref a :: rest)) :=
  va_iast C.hx C.hb C.2.1.1 hw.1 hw.2.1 hw.2.2 q0 0 ha rfl hin hdg (fun H1 locs1 hP hD hS => kk H1 locs1 ⟨hP, hD, hS⟩)
theorem k_iastN (C : kC p s m args meth c cc nL Ts own D cI cZ A) (hw : kW D A s H locs ws) {a : Nat} (q0 : Nat) {n : Nat} {f : Nat → Int32} (ha : ws[q0]? = some (a, .inl (cI, n, .inl f))) {i x : Int32} (j : Nat) (hi : i = nI j) (hj : j < n) (hn : n < 2 ^ 31) (hdg : decode cc pc = .ok (.iastore, 1))
    (kk : ∀ (H1 : Heap) (locs1 : List Loc), kW D A s H1 locs1 (ws.set q0 (a, .inl (cI, n, .inl (upd f j x)))) → W p l e R s m args below meth c H1 locs1 cells slots Q (F0 m (pc + 1) ls rest)) : W p l e R s m args below meth c H locs cells slots Q (F0 m pc ls (.int x :: .int i :: .ref a :: rest)) := by
  subst hi
  refine k_iast C hw q0 ha (vp_in_nI hj hn) hdg ?_
  rw [nI_clamp (Nat.lt_trans hj hn)]
  exact kk
theorem k_zast (C : kC p s m args meth c cc nL Ts own D cI cZ A) (hw : kW D A s H locs ws) {a : Nat} (q0 : Nat) {n : Nat} {f : Nat → Int32} (ha : ws[q0]? = some (a, .inl (cZ, n, .inl f))) {i x : Int32} (hin : vp_in i n) (hdg : decode cc pc = .ok (.bastore, 1))
    (kk : ∀ (H1 : Heap) (locs1 : List Loc), kW D A s H1 locs1 (ws.set q0 (a, .inl (cZ, n, .inl (upd f i.toNatClampNeg (vp_nar .boolean x))))) → W p l e R s m args below meth c H1 locs1 cells slots Q (F0 m (pc + 1) ls rest)) : W p l e R s m args below meth c H locs cells slots Q (F0 m pc ls (.int x :: .int i :: .ref a :: rest)) :=
  va_zast C.hx C.hb C.2.1.1 hw.1 hw.2.1 hw.2.2 q0 1 ha rfl hin hdg (fun H1 locs1 hP hD hS => kk H1 locs1 ⟨hP, hD, hS⟩)
theorem k_copy (C : kC p s m args meth c cc nL Ts own D cI cZ A) (hw : kW D A s H locs ws) {index : Nat} (hlink : Cond.methodLink own index arraycopyName ∈ Ts) (hnat : Cond.native arraycopyName ∈ Ts) (hstat : Cond.static arraycopyName ∈ Ts) (hini : Cond.initialized "java/lang/System" ∈ Ts) (hsz : ls.size = nL) (q0 q1 : Nat) {a0 a n0 n1 : Nat} {f g : Nat → Int32} (ha0 : ws[q0]? = some (a0, .inl (cI, n0, .inl f))) (ha1 : ws[q1]? = some (a, .inl (cI, n1, .inl g))) {sp dp n : Int32} (h1 : ¬ sp < 0) (h2 : ¬ dp < 0) (h3 : ¬ n < 0) (h4 : sp.toNatClampNeg + n.toNatClampNeg ≤ n0) (h5 : dp.toNatClampNeg + n.toNatClampNeg ≤ n1) (hframes : 1 ≤ R.frames) (hlocals : (rest.map fun v => v.category).sum + (nativeFrameWords "java/lang/System" "arraycopy" 5 + 11) ≤ R.locals) (hdg : decode cc pc = .ok (.invokestatic index, 3))
    (kk : ∀ (H1 : Heap) (locs1 : List Loc), kW D A s H1 locs1 (ws.set q1 (a, .inl (cI, n1, .inl (va_cpy f g sp.toNatClampNeg dp.toNatClampNeg n.toNatClampNeg)))) → W p l e R s m args below meth c H1 locs1 cells slots Q (F0 m (pc + 3) ls rest)) : W p l e R s m args below meth c H locs cells slots Q (F0 m pc ls (.int n :: .int dp :: .ref a :: .int sp :: .ref a0 :: rest)) :=
  va_copyi C.hx C.hb (C.hml.trans hsz.symm) C.hown (C.hts _ hlink) (C.hts _ hnat) (C.hts _ hstat) (C.hts _ hini) C.2.1.1 hw.1 hw.2.1 hw.2.2 q0 q1 0 0 (ty := .int) ha0 ha1 rfl rfl rfl h1 h2 h3 h4 h5 (fun _ _ => rfl) hframes hlocals hdg (fun H1 locs1 hP hD hS => kk H1 locs1 ⟨hP, hD, hS⟩)
theorem k_max (C : kC p s m args meth c cc nL Ts own D cI cZ A) {index : Nat} (hlink : Cond.methodLink own index Lib.Math.max.name ∈ Ts) (hstat : Cond.static Lib.Math.max.name ∈ Ts) (hini : Cond.initialized "java/lang/Math" ∈ Ts) (hcode : Cond.code Lib.Math.max.name Lib.Math.max.code 2 (some .int) ∈ Ts) (hsz : ls.size = nL) (hframes : 1 ≤ R.frames) (hlocals : (rest.map fun v => v.category).sum + 13 ≤ R.locals) (hc : cells ≤ R.cells) (hs : slots ≤ R.slots) {x y : Int32} (hdg : decode cc pc = .ok (.invokestatic index, 3))
    (kk : W p l e R s m args below meth c H locs cells slots Q (F0 m (pc + 3) ls (.int (if x < y then y else x) :: rest))) : W p l e R s m args below meth c H locs cells slots Q (F0 m pc ls (.int y :: .int x :: rest)) :=
  va_mmax C.hx C.hb (C.hml.trans hsz.symm) C.hown (C.hts _ hlink) (C.hts _ hstat) (C.hts _ hini) (C.hts _ hcode) hframes hlocals hc hs hdg kk
theorem k_min (C : kC p s m args meth c cc nL Ts own D cI cZ A) {index : Nat} (hlink : Cond.methodLink own index Lib.Math.min.name ∈ Ts) (hstat : Cond.static Lib.Math.min.name ∈ Ts) (hini : Cond.initialized "java/lang/Math" ∈ Ts) (hcode : Cond.code Lib.Math.min.name Lib.Math.min.code 2 (some .int) ∈ Ts) (hsz : ls.size = nL) (hframes : 1 ≤ R.frames) (hlocals : (rest.map fun v => v.category).sum + 13 ≤ R.locals) (hc : cells ≤ R.cells) (hs : slots ≤ R.slots) {x y : Int32} (hdg : decode cc pc = .ok (.invokestatic index, 3))
    (kk : W p l e R s m args below meth c H locs cells slots Q (F0 m (pc + 3) ls (.int (if y < x then y else x) :: rest))) : W p l e R s m args below meth c H locs cells slots Q (F0 m pc ls (.int y :: .int x :: rest)) :=
  va_mmin C.hx C.hb (C.hml.trans hsz.symm) C.hown (C.hts _ hlink) (C.hts _ hstat) (C.hts _ hini) (C.hts _ hcode) hframes hlocals hc hs hdg kk
theorem k_iret {W0 W1 : va_W} (C : kC p s m args meth c cc nL Ts own D cI cZ (va_A W0 s.heap.size)) (hr : meth.sig.returnType = some .int) (hw : kW D (va_A W0 s.heap.size) s H locs W1) {v : Int32} (hdg : decode cc pc = .ok (.ireturn, 1)) : W p l e R s m args below meth c H locs 0 0 (MQ below (kQ D W0 s.heap.size (some (.int v)) W1) args s 0 0 (va_A W0 s.heap.size)) (F0 m pc ls [.int v]) :=
  W.iret C.hx C.hb hr (fun t ht _ => ⟨⟨rfl, by rw [ht]; exact hw.1⟩, hw.2.2.F ht⟩) hw.2.2.2.2 hdg C.2.2.2
theorem k_zret {W0 W1 : va_W} (C : kC p s m args meth c cc nL Ts own D cI cZ (va_A W0 s.heap.size)) (hr : meth.sig.returnType = some .boolean) (hw : kW D (va_A W0 s.heap.size) s H locs W1) {v : Int32} (hn : narrow .boolean (.int v) = .int v) (hdg : decode cc pc = .ok (.ireturn, 1)) : W p l e R s m args below meth c H locs 0 0 (MQ below (kQ D W0 s.heap.size (some (.int v)) W1) args s 0 0 (va_A W0 s.heap.size)) (F0 m pc ls [.int v]) :=
  W.zret C.hx C.hb hr hn (fun t ht _ => ⟨⟨rfl, by rw [ht]; exact hw.1⟩, hw.2.2.F ht⟩) hw.2.2.2.2 hdg C.2.2.2
theorem k_lret {W0 W1 : va_W} (C : kC p s m args meth c cc nL Ts own D cI cZ (va_A W0 s.heap.size)) (hr : meth.sig.returnType = some .long) (hw : kW D (va_A W0 s.heap.size) s H locs W1) {v : Int64} (hdg : decode cc pc = .ok (.lreturn, 1)) : W p l e R s m args below meth c H locs 0 0 (MQ below (kQ D W0 s.heap.size (some (.long v)) W1) args s 0 0 (va_A W0 s.heap.size)) (F0 m pc ls [.long v]) :=
  W.lret C.hx C.hb hr (fun t ht _ => ⟨⟨rfl, by rw [ht]; exact hw.1⟩, hw.2.2.F ht⟩) hw.2.2.2.2 hdg C.2.2.2
theorem k_vret {W0 W1 : va_W} (C : kC p s m args meth c cc nL Ts own D cI cZ (va_A W0 s.heap.size)) (hr : meth.sig.returnType = none) (hw : kW D (va_A W0 s.heap.size) s H locs W1) (hdg : decode cc pc = .ok (.return_, 1)) : W p l e R s m args below meth c H locs 0 0 (MQ below (kQ D W0 s.heap.size none W1) args s 0 0 (va_A W0 s.heap.size)) (F0 m pc ls []) :=
  W.vret C.hx C.hb hr (fun t ht _ => ⟨⟨rfl, by rw [ht]; exact hw.1⟩, hw.2.2.F ht⟩) hw.2.2.2.2 hdg C.2.2.2
/-- behind a call: the callee's cells at the places isC are W1, all other cells as they were -/
theorem k_call {Wc W1 : va_W} {ret : Option Value} {a : Array Value} (hA : ∀ q : Nat, s.heap.size ≤ q → A q) (hw : kW D A s H locs ws) (isC : List Nat) (hC : isC.map (fun i => ws[i]?) = Wc.map some) (adr : List Nat) (had1 : W1.map Prod.fst = adr) (had0 : Wc.map Prod.fst = adr)
    (hr : va_Run p l e R s m args below meth c H locs cells slots 0 0 (F0 m pc ls st0) rest (kQ D Wc H.size ret W1 a) (va_A Wc H.size))
    (kk : ∀ (H1 : Heap) (locs1 : List Loc), kW D A s H1 locs1 (kset ws isC W1) → W p l e R s m args below meth c H1 locs1 cells slots Q (F0 m (pc + 3) ls (ret.toList ++ rest))) : W p l e R s m args below meth c H locs cells slots Q (F0 m pc ls st0) := by
  intro T hT X
  have had : W1.map Prod.fst = Wc.map Prod.fst := had1.trans had0.symm
  obtain ⟨v, st₀, t, T', L, h0, X', hL, e1, e2, ⟨⟨hv, hP1⟩, hz, hk⟩, st⟩ := hr T hT X
  obtain ⟨hP, hD, hS⟩ := hw
  have hF := va_free (wc := Wc) hD hS hA isC hC
  cases hv
  rw [h0] at hz hk
  have hlen : W1.length = isC.length := by
    have h1 := congrArg List.length had
    have h2 := congrArg List.length hC
    simp only [List.length_map] at h1 h2
    omega
  have hadr : (kset ws isC W1).map Prod.fst = ws.map Prod.fst := by
    apply kset_adr
    have h1 : isC.map (fun i => (ws[i]?).map Prod.fst) = (isC.map (fun i => ws[i]?)).map (fun o => o.map Prod.fst) := by rw [List.map_map]; rfl
    rw [h1, hC, List.map_map]
    have h2 : W1.map (fun w => some w.1) = (W1.map Prod.fst).map some := by rw [List.map_map]; rfl
    rw [h2, had, List.map_map]
    rfl
  have hP2 : va_P D vwCl (kset ws isC W1) T'.heap := by
    intro k x hx
    rcases kset_mem isC ws W1 k x hlen hx with ⟨j, hj⟩ | ⟨h1, h2⟩
    · rw [e1]; exact hP1 j x hj
    · have hlt : x.1 < H.size := (hP k x h1).lt
      refine (hP k x h1).kept ?_
      rw [e1]
      refine hk x.1 hlt ?_
      rintro (⟨k', e', hk'⟩ | hq)
      · have h3 : (Wc.map some)[k']? = some (some (x.1, e')) := by rw [List.getElem?_map, hk']; rfl
        rw [← hC, List.getElem?_map] at h3
        cases hi : isC[k']? with
        | none => rw [hi] at h3; cases h3
        | some i =>
          rw [hi] at h3
          have h4 : ws[i]? = some (x.1, e') := by simpa using h3
          have h5 := hD.1 k i x (x.1, e') h1 h4 rfl
          exact h2 (h5 ▸ List.mem_of_getElem? hi)
      · exact absurd hlt (Nat.not_lt.mpr hq)
  obtain ⟨t2, a1, b1⟩ := kk T'.heap (locs ++ L) ⟨hP2, kD_adr hD hadr, Nat.le_trans hS.1 (by rw [e1]; exact hz), fun q h1 h2 => by rw [e1, hk q (Nat.lt_of_lt_of_le h1 hS.1) (fun z => h2 (hF q z))]; exact hS.2.1 q h1 h2, fun q hq => by
      rcases List.mem_append.mp hq with h | h
      · exact hS.2.2 q h
      · exact hF _ (hL q h)⟩ T' rfl X'
  exact ⟨t2, st t2 a1, b1⟩
theorem k_blind {W0 : va_W} {av : List Value} {sz : Nat} : FrameBlind (va_Pc av (fun U => U.heap.size = sz ∧ va_P D vwCl W0 U.heap ∧ kX D cI cZ U ∧ va_D (fun _ => True) W0)) := fun a U g mk q => by
  obtain ⟨q0, q1, qP, qK, qD⟩ := q
  exact ⟨q0, q1, qP, qK.call g mk a, qD⟩
theorem k_pre {Wc : va_W} {av : List Value} (C : kC p s m args meth c cc nL Ts own D cI cZ A) (hw : kW D A s H locs ws) (isC : List Nat) (hn : va_nd isC = true) (hC : isC.map (fun i => ws[i]?) = Wc.map some) (U : State) (hU : U.heap = H) (hW : s.WarmedH U.vm) : va_Pc av (fun U => U.heap.size = H.size ∧ va_P D vwCl Wc U.heap ∧ kX D cI cZ U ∧ va_D (fun _ => True) Wc) av.toArray U := by
  refine ⟨rfl, by rw [hU], ?_, C.2.1.warm hW, (hw.2.1.sub isC hn hC).weaken (fun _ _ _ _ => trivial)⟩
  rw [hU]
  refine hw.1.sub isC ?_
  have h1 : isC.filterMap (fun i => ws[i]?) = (isC.map (fun i => ws[i]?)).filterMap id := by rw [List.filterMap_map]; rfl
  rw [h1, hC, List.filterMap_map]
  exact List.filterMap_some
/-- a call of an own private method (invokevirtual) -/
theorem k_callV {y : MethodName} {wy wy' : List Cond} {rm : Room} {b : Nat} {As : List Value} {Wc W1 : va_W} {ret : Option Value} {CC : String} {index maxL n : Nat} {bytes : ByteArray} {rt : Option FieldType} (C : kC p s m args meth c cc nL Ts own D cI cZ A) (hw : kW D A s H locs ws) (hM : CT l D cI cZ y wy rm (.ref b :: As) Wc ret W1)
    (hG : GoodIn Ts (wsV own index CC y wy)) (hwy : wy = Cond.code y bytes maxL rt :: wy') (hrm : rm.cells = 0 ∧ rm.slots = 0) (hd : y.cls = CC ∧ y.cls ≠ "java/lang/invoke/MethodHandle" ∧ y.cls ≠ "java/lang/invoke/VarHandle" ∧ (parseMethodDescriptor y.desc).map (fun d => d.parameters.length) = some n) (hR : rm.frames + 1 ≤ R.frames ∧ 8 + (maxL + 11) + rm.locals ≤ R.locals)
    (q0 : Nat) {ci : Nat} {fs : List Value} {T : u_T} {N : Nat} (he : ws[q0]? = some (b, .inr (ci, fs))) (hc : vwCl[ci]? = some (CC, T, N)) (isC : List Nat) (hnd : va_nd isC = true) (hC : isC.map (fun i => ws[i]?) = Wc.map some) (adr : List Nat) (had1 : W1.map Prod.fst = adr) (had0 : Wc.map Prod.fst = adr) (hn : As.length = n) (hsz : ls.size = nL) (hst : st0 = As.reverse ++ .ref b :: rest) (hrest : (rest.map fun v => v.category).sum ≤ 8) (hcs : cells ≤ R.cells ∧ slots ≤ R.slots) (hdg : decode cc pc = .ok (.invokevirtual index, 3))
    (kk : ∀ (H1 : Heap) (locs1 : List Loc), kW D A s H1 locs1 (kset ws isC W1) → W p l e R s m args below meth c H1 locs1 cells slots Q (F0 m (pc + 3) ls (ret.toList ++ rest))) : W p l e R s m args below meth c H locs cells slots Q (F0 m pc ls st0) :=
  k_call C.2.2.1 hw isC hC adr had1 had0 (va_runV C.1 (hM H.size) (cwV n C.hts hG hwy hrm.1 hrm.2 hd hR) ⟨k_blind, va_recv C.2.1.1 hw.1 hc he, k_pre C hw isC hnd hC⟩ rfl hn hsz hst (lv_room hrest) hdg hcs) kk
/-- a call of a nest mate's private method -/
theorem k_callVN {y : MethodName} {wy wy' : List Cond} {rm : Room} {b : Nat} {As : List Value} {Wc W1 : va_W} {ret : Option Value} {CC host : String} {index maxL n : Nat} {bytes : ByteArray} {rt : Option FieldType} (C : kC p s m args meth c cc nL Ts own D cI cZ A) (hw : kW D A s H locs ws) (hM : CT l D cI cZ y wy rm (.ref b :: As) Wc ret W1)
    (hG : GoodIn Ts wy) (hwy : wy = Cond.code y bytes maxL rt :: wy') (hrm : rm.cells = 0 ∧ rm.slots = 0) (nw : Nat) (hl : nestM[nw]? = some (own, index, y, host)) (hini : Cond.initialized y.cls ∈ Ts) (hinst : Cond.instanceMethod y ∈ Ts) (hsel : Cond.selects CC y y ∈ Ts) (hd : y.cls ≠ "java/lang/invoke/MethodHandle" ∧ y.cls ≠ "java/lang/invoke/VarHandle" ∧ (parseMethodDescriptor y.desc).map (fun d => d.parameters.length) = some n) (hR : rm.frames + 1 ≤ R.frames ∧ 8 + (maxL + 11) + rm.locals ≤ R.locals)
    (q0 : Nat) {ci : Nat} {fs : List Value} {T : u_T} {N : Nat} (he : ws[q0]? = some (b, .inr (ci, fs))) (hc : vwCl[ci]? = some (CC, T, N)) (isC : List Nat) (hnd : va_nd isC = true) (hC : isC.map (fun i => ws[i]?) = Wc.map some) (adr : List Nat) (had1 : W1.map Prod.fst = adr) (had0 : Wc.map Prod.fst = adr) (hn : As.length = n) (hsz : ls.size = nL) (hst : st0 = As.reverse ++ .ref b :: rest) (hrest : (rest.map fun v => v.category).sum ≤ 8) (hcs : cells ≤ R.cells ∧ slots ≤ R.slots) (hdg : decode cc pc = .ok (.invokevirtual index, 3))
    (kk : ∀ (H1 : Heap) (locs1 : List Loc), kW D A s H1 locs1 (kset ws isC W1) → W p l e R s m args below meth c H1 locs1 cells slots Q (F0 m (pc + 3) ls (ret.toList ++ rest))) : W p l e R s m args below meth c H locs cells slots Q (F0 m pc ls st0) :=
  k_call C.2.2.1 hw isC hC adr had1 had0 (va_runVN C.1 (hM H.size) ⟨va_cnB n C.hts hG hwy hrm.1 hrm.2 (C.2.1.2.2 _ (List.mem_of_getElem? hl)) (C.hts _ hini) hd hR, C.hts _ hinst, C.hts _ hsel⟩ ⟨k_blind, va_recv C.2.1.1 hw.1 hc he, k_pre C hw isC hnd hC⟩ rfl hn hsz hst (lv_room hrest) hdg hcs) kk
/-- a static call -/
theorem k_callS {y : MethodName} {wy wy' : List Cond} {rm : Room} {As : List Value} {Wc W1 : va_W} {ret : Option Value} {index maxL n : Nat} {bytes : ByteArray} {rt : Option FieldType} (C : kC p s m args meth c cc nL Ts own D cI cZ A) (hw : kW D A s H locs ws) (hM : CT l D cI cZ y wy rm As Wc ret W1)
    (hG : GoodIn Ts (va_wsS own index y wy)) (hwy : wy = Cond.code y bytes maxL rt :: wy') (hrm : rm.cells = 0 ∧ rm.slots = 0) (hd : y.cls ≠ "java/lang/invoke/MethodHandle" ∧ y.cls ≠ "java/lang/invoke/VarHandle" ∧ (parseMethodDescriptor y.desc).map (fun d => d.parameters.length) = some n) (hR : rm.frames + 1 ≤ R.frames ∧ 8 + (maxL + 11) + rm.locals ≤ R.locals)
    (isC : List Nat) (hnd : va_nd isC = true) (hC : isC.map (fun i => ws[i]?) = Wc.map some) (adr : List Nat) (had1 : W1.map Prod.fst = adr) (had0 : Wc.map Prod.fst = adr) (hn : As.length = n) (hsz : ls.size = nL) (hst : st0 = As.reverse ++ rest) (hrest : (rest.map fun v => v.category).sum ≤ 8) (hcs : cells ≤ R.cells ∧ slots ≤ R.slots) (hdg : decode cc pc = .ok (.invokestatic index, 3))
    (kk : ∀ (H1 : Heap) (locs1 : List Loc), kW D A s H1 locs1 (kset ws isC W1) → W p l e R s m args below meth c H1 locs1 cells slots Q (F0 m (pc + 3) ls (ret.toList ++ rest))) : W p l e R s m args below meth c H locs cells slots Q (F0 m pc ls st0) :=
  k_call C.2.2.1 hw isC hC adr had1 had0 (va_runS C.1 (hM H.size) (va_cwS n C.hts hG hwy hrm.1 hrm.2 hd hR) ⟨k_blind, k_pre C hw isC hnd hC⟩ rfl hn hsz hst (lv_room hrest) hdg hcs) kk
end core
