/-! MAKINGS: contracts of constructors (CN): from the one bare object W0 it returns; the cells are W1 with B W1, mc cells of ms slots are new -/
def kQn (D : va_G) (W0 : va_W) (sz : Nat) (B : va_W → Prop) : Array Value → State → Outcome → State → Prop := fun _ st oc t => (oc = .returned none ∧ ∃ W1 : va_W, B W1 ∧ va_P D vwCl W1 t.heap ∧ va_D (va_A W0 sz) W1) ∧ va_F (va_A W0 sz) st t
def CN (l : Launch) (D : va_G) (cI cZ : ClassId) (y : MethodName) (wy : List Cond) (rm : Room) (av : List Value) (W0 : va_W) (mc ms : Nat) (B : va_W → Prop) : Prop :=
  ∀ sz : Nat, Met l y wy rm (va_Pc av (fun U => U.heap.size = sz ∧ va_P D vwCl W0 U.heap ∧ kX D cI cZ U ∧ va_D (fun _ => True) W0)) (kQn D W0 sz B) mc ms (va_A W0 sz)
theorem CN.intro {l : Launch} {D : va_G} {cI cZ : ClassId} {y : MethodName} {wy wy' : List Cond} {rm : Room} {av : List Value} {W0 : va_W} {mc ms : Nat} {B : va_W → Prop} {cc : ByteArray} {nL : Nat} {rt : Option FieldType} (own : String) (hy : plainName y.cls = true) (hw : wy = Cond.code y cc nL rt :: wy') (hlen : (lg_sl av).length ≤ nL) (ho : y.cls = own) (hn : y.name = "<init>")
    (body : ∀ (p : Program) (e : Env) (s : State) (m : MethodId) (below : List Frame) (meth : Method) (c : Code), kC p s m av.toArray meth c cc nL wy own D cI cZ (va_A W0 s.heap.size) → meth.sig.returnType = rt → meth.name = "<init>" → kW D (va_A W0 s.heap.size) s s.heap [] W0 → ∀ ls : Array Slot, lv_has ls nL (lv_args 0 av) →
      W p l e rm s m av.toArray below meth c s.heap [] 0 0 (MQ below (kQn D W0 s.heap.size B) av.toArray s mc ms (va_A W0 s.heap.size)) (F0 m 0 ls [])) : CN l D cI cZ y wy rm av W0 mc ms B := by
  intro sz
  refine Met.ofW (cc := cc) (maxL := nL) (ret := rt) hy hw ?_
  intro p e s m args below meth c s₁ B hml hv
  obtain ⟨rfl, hsz, hP, hK, hD0⟩ := hv
  subst hsz
  have hts := atoms_spec (ws := wy) B.pre
  have hown : s.vm.findClass y.cls = some m.cls := findClass_of_methodNamed B.named
  have hin : meth.name = y.name := (name_of_methodNamed B.named B.method).1
  rw [ho] at hown
  rw [hn] at hin
  rw [lg_entry_eq]
  exact body p e s m below meth c ⟨⟨B.exec, B.bytes, hml, hown, hts⟩, hK, fun q h => Or.inr h, B.notSynchronized⟩ B.returns hin ⟨hP, hD0.self, va_S.rf⟩ _ (lv_entry av hlen)
section make
variable {p : Program} {l : Launch} {e : Env} {R : Room} {s : State} {m : MethodId} {args : Array Value} {below : List Frame} {meth : Method} {c : Code} {H : Heap} {locs : List Loc} {cells slots : Nat} {Q : State → Prop} {D : va_G} {cI cZ : ClassId} {A : Nat → Prop} {ws : va_W} {cc : ByteArray} {nL : Nat} {Ts : List Cond} {own : String} {ls : Array Slot} {rest st0 : List Value} {pc : Nat}
theorem k_push {cA : ClassId} {N : Nat} {f : Nat → Int32} {H1 : Heap} (hA : ∀ q : Nat, s.heap.size ≤ q → A q) (hw : kW D A s H locs ws) (e1 : H1[H.size]? = some (vp_cell cA (N, .inl f))) (z1 : H1.size = H.size + 1) (o1 : ∀ q, q < H.size → H1[q]? = H[q]?) : kW D A s H1 locs (ws ++ [(H.size, .inl (cA, N, .inl f))]) := by
  obtain ⟨hP, hD, hS⟩ := hw
  have hk : ∀ (k : Nat) (x : Nat × va_E), ws[k]? = some x → H1[x.1]? = H[x.1]? := fun k x hx => o1 x.1 ((hP k x hx).lt)
  refine ⟨(hP.kept hk).app (fun k x hx => ?_), hD.push hP rfl (hA _ hS.1), ⟨Nat.le_trans hS.1 (by omega), fun x h1 h2 => (o1 x (Nat.lt_of_lt_of_le h1 hS.1)).trans (hS.2.1 x h1 h2), hS.2.2⟩⟩
  have hz : k < 1 := (List.getElem?_eq_some_iff.mp hx).1
  rw [show k = 0 by omega] at hx
  cases hx
  exact e1
theorem k_newI (C : kC p s m args meth c cc nL Ts own D cI cZ A) (hw : kW D A s H locs ws) (harr : Cond.arrayClass .int ∈ Ts) {n : Int32} {N : Nat} (hn : ¬ n < 0) (hN : n.toNatClampNeg = N) (hbytes : N * componentBytes .int ≤ 536870912) (hcells : cells + 1 ≤ R.cells) (hslots : slots + N ≤ R.slots) (hdg : decode cc pc = .ok (.newarray .int, 2))
    (kk : ∀ (q : Nat) (H1 : Heap), kW D A s H1 locs (ws ++ [(q, .inl (cI, N, .inl (fun _ => 0)))]) → W p l e R s m args below meth c H1 locs (cells + 1) (slots + N) Q (F0 m (pc + 2) ls (.ref q :: rest))) : W p l e R s m args below meth c H locs cells slots Q (F0 m pc ls (.int n :: rest)) := by
  refine va_newaK (atype := .int) C.hx C.hb (C.hts _ harr) rfl hdg rfl hn hN hbytes hcells hslots rfl fun H1 cA e1 z1 o1 hAr hNm => ?_
  have h1 : s.vm.findClass ("[" ++ FieldType.int.toString) = some cI := (C.2.1.1.2 0 (cI, .int) rfl).2
  have h2 : cA = cI := by
    have h3 : some cA = some cI := hNm.symm.trans h1
    exact Option.some.inj h3
  subst h2
  exact kk H.size H1 (k_push C.2.2.1 hw e1 z1 o1)
theorem k_newZ (C : kC p s m args meth c cc nL Ts own D cI cZ A) (hw : kW D A s H locs ws) (harr : Cond.arrayClass .boolean ∈ Ts) {n : Int32} {N : Nat} (hn : ¬ n < 0) (hN : n.toNatClampNeg = N) (hbytes : N * componentBytes .boolean ≤ 536870912) (hcells : cells + 1 ≤ R.cells) (hslots : slots + N ≤ R.slots) (hdg : decode cc pc = .ok (.newarray .boolean, 2))
    (kk : ∀ (q : Nat) (H1 : Heap), kW D A s H1 locs (ws ++ [(q, .inl (cZ, N, .inl (fun _ => 0)))]) → W p l e R s m args below meth c H1 locs (cells + 1) (slots + N) Q (F0 m (pc + 2) ls (.ref q :: rest))) : W p l e R s m args below meth c H locs cells slots Q (F0 m pc ls (.int n :: rest)) := by
  refine va_newaK (atype := .boolean) C.hx C.hb (C.hts _ harr) rfl hdg rfl hn hN hbytes hcells hslots rfl fun H1 cA e1 z1 o1 hAr hNm => ?_
  have h1 : s.vm.findClass ("[" ++ FieldType.boolean.toString) = some cZ := (C.2.1.1.2 1 (cZ, .boolean) rfl).2
  have h2 : cA = cZ := by
    have h3 : some cA = some cZ := hNm.symm.trans h1
    exact Option.some.inj h3
  subst h2
  exact kk H.size H1 (k_push C.2.2.1 hw e1 z1 o1)
theorem k_new (C : kC p s m args meth c cc nL Ts own D cI cZ A) (hw : kW D A s H locs ws) {CC : String} {T : u_T} {N ci index : Nat} (hin : ∀ w ∈ u_ws CC T N, w ∈ Ts) {ty : Nat → FieldType} (hty : ∀ k, k < N → parseFieldDescriptor (T k).2.2.1 = some (ty k)) (hcl : Cond.classLink own index CC ∈ Ts) (hinst : Cond.instantiable CC N ∈ Ts) (hini : Cond.initialized CC ∈ Ts) (hc : vwCl[ci]? = some (CC, T, N)) {fs : List Value} (hfs : ∀ j, j < N → defaultValue (ty j) = vp_V fs j) (hcells : cells + 1 ≤ R.cells) (hslots : slots + N ≤ R.slots) (hdg : decode cc pc = .ok (.new index, 3))
    (kk : ∀ (q : Nat) (H1 : Heap), kW D A s H1 locs (ws ++ [(q, .inr (ci, fs))]) → W p l e R s m args below meth c H1 locs (cells + 1) (slots + N) Q (F0 m (pc + 3) ls (.ref q :: rest))) : W p l e R s m args below meth c H locs cells slots Q (F0 m pc ls rest) :=
  va_new C.hx C.hb C.hts hin ty hty C.hown (C.hts _ hcl) (C.hts _ hinst) (C.hts _ hini) C.2.1.1 hw.1 hw.2.1 hw.2.2 C.2.2.1 hc hfs hcells hslots hdg (fun q H1 hP hD hS => kk q H1 ⟨hP, hD, hS⟩)
theorem k_putF (C : kC p s m args meth c cc nL Ts own D cI cZ A) (hin2 : meth.name = "<init>") (hw : kW D A s H locs ws) {CC : String} {T : u_T} {N ci index a : Nat} (hin : ∀ w ∈ u_ws CC T N, w ∈ Ts) {ty0 : Nat → FieldType} (hty : ∀ k, k < N → parseFieldDescriptor (T k).2.2.1 = some (ty0 k)) (hnm : ∀ a, a < N → ∀ b, b < N → a ≠ b → (T a).2.1 ≠ (T b).2.1) (q0 : Nat) {fs : List Value} (he : ws[q0]? = some (a, .inr (ci, fs))) (hc : vwCl[ci]? = some (CC, T, N)) (k : Nat) (hk : k < N) (hlink : Cond.fieldLink own index CC (T k).2.1 (T k).2.2.1 ∈ Ts) (hcc : (T k).1 = CC) (hfin : (T k).2.2.2 = true) (hdecl : (T k).1 = own) {v : Value} (hn : narrow (ty0 k) v = v) (hfit : fits (ty0 k) v = true) (hl : k < fs.length) (hdg : decode cc pc = .ok (.putfield index, 3))
    (kk : ∀ (H1 : Heap) (locs1 : List Loc), kW D A s H1 locs1 (ws.set q0 (a, .inr (ci, fs.set k v))) → W p l e R s m args below meth c H1 locs1 cells slots Q (F0 m (pc + 3) ls rest)) : W p l e R s m args below meth c H locs cells slots Q (F0 m pc ls (v :: .ref a :: rest)) :=
  va_putF C.hx C.hb C.hts hin ty0 hty hnm C.hown C.2.1.1 hw.1 hw.2.1 hw.2.2 q0 he hc k hk (C.hts _ hlink) (fun x hx => by rw [hcc] at hx; exact hx) hfin hin2 hdecl (hty k hk) hn hfit hl hdg (fun H1 locs1 hP hD hS => kk H1 locs1 ⟨hP, hD, hS⟩)
theorem k_oinit (C : kC p s m args meth c cc nL Ts own D cI cZ A) {index a : Nat} (hlink : Cond.methodLink own index objectInit ∈ Ts) (hinst : Cond.instanceMethod objectInit ∈ Ts) (hcode : Cond.code objectInit ⟨#[0xb1]⟩ 1 none ∈ Ts) (hsz : ls.size = nL) (hframes : 1 ≤ R.frames) (hlocals : 12 ≤ R.locals) (hdg : decode cc pc = .ok (.invokespecial index, 3))
    (kk : W p l e R s m args below meth c H locs cells slots Q (F0 m (pc + 3) ls [])) : W p l e R s m args below meth c H locs cells slots Q (F0 m pc ls [.ref a]) :=
  W.objInit C.hx C.hb C.hown (C.hts _ hlink) (C.hts _ hinst) (C.hts _ hcode) rfl (hsz.trans C.hml.symm) rfl hdg hframes hlocals kk
theorem k_nret {W0 W1 : va_W} {B : va_W → Prop} {mc ms : Nat} (C : kC p s m args meth c cc nL Ts own D cI cZ (va_A W0 s.heap.size)) (hr : meth.sig.returnType = none) (hw : kW D (va_A W0 s.heap.size) s H locs W1) (hB : B W1) (hdg : decode cc pc = .ok (.return_, 1)) : W p l e R s m args below meth c H locs mc ms (MQ below (kQn D W0 s.heap.size B) args s mc ms (va_A W0 s.heap.size)) (F0 m pc ls []) :=
  W.vret C.hx C.hb hr (fun t ht _ => ⟨⟨rfl, W1, hB, by rw [ht]; exact hw.1, hw.2.1⟩, hw.2.2.F ht⟩) hw.2.2.2.2 hdg C.2.2.2
/-- behind a constructor: the bare object at the place q0 goes, its cells come at the end -/
theorem k_made {b ci : Nat} {fs : List Value} {B : va_W → Prop} {mc ms : Nat} {a : Array Value} {wr : va_W} (hA : ∀ q : Nat, s.heap.size ≤ q → A q) (hw : kW D A s H locs ws) (q0 : Nat) (isR : List Nat) (he : ws[q0]? = some (b, .inr (ci, fs))) (hR : isR.map (fun i => ws[i]?) = wr.map some) (hn : va_nd isR = true) (hdis : ∀ i ∈ isR, i ∉ [q0])
    (hr : va_Run p l e R s m args below meth c H locs cells slots mc ms (F0 m pc ls st0) rest (kQn D [(b, .inr (ci, fs))] H.size B a) (va_A [(b, .inr (ci, fs))] H.size))
    (kk : ∀ (W1 : va_W), B W1 → ∀ (H1 : Heap) (locs1 : List Loc), kW D A s H1 locs1 (wr ++ W1) → W p l e R s m args below meth c H1 locs1 (cells + mc) (slots + ms) Q (F0 m (pc + 3) ls rest)) : W p l e R s m args below meth c H locs cells slots Q (F0 m pc ls st0) := by
  intro T hT X
  obtain ⟨v, st₀, t, T', L, h0, X', hL, e1, e2, ⟨⟨hv, W1, hB, hP1, hD1⟩, hz, hk⟩, st⟩ := hr T hT X
  obtain ⟨hP, hD, hS⟩ := hw
  have hC : ([q0] : List Nat).map (fun i => ws[i]?) = ([(b, .inr (ci, fs))] : va_W).map some := by simp [he]
  have hF := va_free (wc := [(b, .inr (ci, fs))]) hD hS hA [q0] hC
  cases hv
  rw [h0] at hz hk
  have hk1 : ∀ q : Nat, q < H.size → ¬ va_A [(b, .inr (ci, fs))] H.size q → T'.heap[q]? = H[q]? := fun q h1 h2 => by rw [e1]; exact hk q h1 h2
  obtain ⟨hP2, hD2⟩ := va_join (wr := wr) (w1 := W1) hP hD [q0] isR hC hR hn hdis hk1 hF (by rw [e1]; exact hP1) hD1
  obtain ⟨t2, a1, b1⟩ := kk W1 hB T'.heap (locs ++ L) ⟨hP2, hD2, Nat.le_trans hS.1 (by rw [e1]; exact hz), fun q h1 h2 => by rw [e1, hk q (Nat.lt_of_lt_of_le h1 hS.1) (fun z => h2 (hF q z))]; exact hS.2.1 q h1 h2, fun q hq => by
      rcases List.mem_append.mp hq with h | h
      · exact hS.2.2 q h
      · exact hF _ (hL q h)⟩ T' rfl X'
  exact ⟨t2, st t2 a1, b1⟩
theorem k_preN {b ci : Nat} {fs : List Value} {av : List Value} (C : kC p s m args meth c cc nL Ts own D cI cZ A) (hw : kW D A s H locs ws) (q0 : Nat) (he : ws[q0]? = some (b, .inr (ci, fs))) (U : State) (hU : U.heap = H) (hW : s.WarmedH U.vm) : va_Pc av (fun U => U.heap.size = H.size ∧ va_P D vwCl [(b, .inr (ci, fs))] U.heap ∧ kX D cI cZ U ∧ va_D (fun _ => True) [(b, .inr (ci, fs))]) av.toArray U :=
  k_pre C hw [q0] rfl (by simp [he]) U hU hW
theorem k_callIN {y : MethodName} {wy wy' : List Cond} {rm : Room} {b ci : Nat} {fs : List Value} {B : va_W → Prop} {mc ms : Nat} {host : String} {index maxL : Nat} {bytes : ByteArray} {wr : va_W} (C : kC p s m args meth c cc nL Ts own D cI cZ A) (hw : kW D A s H locs ws) (hM : CN l D cI cZ y wy rm [.ref b] [(b, .inr (ci, fs))] mc ms B)
    (hG : GoodIn Ts wy) (hwy : wy = Cond.code y bytes maxL none :: wy') (hrm : rm.cells = mc ∧ rm.slots = ms) (nw : Nat) (hl : nestM[nw]? = some (own, index, y, host)) (hini : Cond.initialized y.cls ∈ Ts) (hinst : Cond.instanceMethod y ∈ Ts) (hy : y.name = "<init>") (hd : y.cls ≠ "java/lang/invoke/MethodHandle" ∧ y.cls ≠ "java/lang/invoke/VarHandle" ∧ (parseMethodDescriptor y.desc).map (fun d => d.parameters.length) = some 0) (hR : rm.frames + 1 ≤ R.frames ∧ 8 + (maxL + 11) + rm.locals ≤ R.locals)
    (q0 : Nat) (isR : List Nat) (he : ws[q0]? = some (b, .inr (ci, fs))) (hRr : isR.map (fun i => ws[i]?) = wr.map some) (hn : va_nd isR = true) (hdis : ∀ i ∈ isR, i ∉ [q0]) (hsz : ls.size = nL) (hrest : (rest.map fun v => v.category).sum ≤ 8) (hcs : cells + mc ≤ R.cells ∧ slots + ms ≤ R.slots) (hdg : decode cc pc = .ok (.invokespecial index, 3))
    (kk : ∀ (W1 : va_W), B W1 → ∀ (H1 : Heap) (locs1 : List Loc), kW D A s H1 locs1 (wr ++ W1) → W p l e R s m args below meth c H1 locs1 (cells + mc) (slots + ms) Q (F0 m (pc + 3) ls rest)) : W p l e R s m args below meth c H locs cells slots Q (F0 m pc ls (.ref b :: rest)) :=
  k_made C.2.2.1 hw q0 isR he hRr hn hdis (va_runIN (As := []) (n := 0) C.1 (hM H.size) ⟨va_cnB 0 C.hts hG hwy hrm.1 hrm.2 (C.2.1.2.2 _ (List.mem_of_getElem? hl)) (C.hts _ hini) hd hR, hy, C.hts _ hinst⟩ ⟨k_blind, k_preN C hw q0 he⟩ rfl rfl hsz rfl (lv_room hrest) hdg hcs) kk
theorem k_callI {y : MethodName} {wy wy' : List Cond} {rm : Room} {b ci : Nat} {fs : List Value} {B : va_W → Prop} {mc ms : Nat} {index maxL : Nat} {bytes : ByteArray} {wr : va_W} (C : kC p s m args meth c cc nL Ts own D cI cZ A) (hw : kW D A s H locs ws) (hM : CN l D cI cZ y wy rm [.ref b] [(b, .inr (ci, fs))] mc ms B)
    (hG : GoodIn Ts wy) (hwy : wy = Cond.code y bytes maxL none :: wy') (hrm : rm.cells = mc ∧ rm.slots = ms) (hl : Cond.methodLink own index y ∈ Ts) (hini : Cond.initialized y.cls ∈ Ts) (hinst : Cond.instanceMethod y ∈ Ts) (hy : y.name = "<init>") (hd : y.cls ≠ "java/lang/invoke/MethodHandle" ∧ y.cls ≠ "java/lang/invoke/VarHandle" ∧ (parseMethodDescriptor y.desc).map (fun d => d.parameters.length) = some 0) (hR : rm.frames + 1 ≤ R.frames ∧ 8 + (maxL + 11) + rm.locals ≤ R.locals)
    (q0 : Nat) (isR : List Nat) (he : ws[q0]? = some (b, .inr (ci, fs))) (hRr : isR.map (fun i => ws[i]?) = wr.map some) (hn : va_nd isR = true) (hdis : ∀ i ∈ isR, i ∉ [q0]) (hsz : ls.size = nL) (hrest : (rest.map fun v => v.category).sum ≤ 8) (hcs : cells + mc ≤ R.cells ∧ slots + ms ≤ R.slots) (hdg : decode cc pc = .ok (.invokespecial index, 3))
    (kk : ∀ (W1 : va_W), B W1 → ∀ (H1 : Heap) (locs1 : List Loc), kW D A s H1 locs1 (wr ++ W1) → W p l e R s m args below meth c H1 locs1 (cells + mc) (slots + ms) Q (F0 m (pc + 3) ls rest)) : W p l e R s m args below meth c H locs cells slots Q (F0 m pc ls (.ref b :: rest)) :=
  k_made C.2.2.1 hw q0 isR he hRr hn hdis (va_runI (As := []) (n := 0) C.1 (hM H.size) (cwI 0 C.hts hG hwy hrm.1 hrm.2 (C.hts _ hini) (C.hts _ hl) (C.hts _ hinst) hy hd hR) ⟨k_blind, k_preN C hw q0 he⟩ rfl rfl hsz rfl (lv_room hrest) hdg hcs) kk
end make
