/-! the two static rows of longs, as the Statement gives them; contracts of methods that read them and touch no cell -/
def factV : Nat → Int64
  | 0 => 1 | 1 => 1 | 2 => 2 | 3 => 6 | 4 => 24 | 5 => 120 | 6 => 720 | 7 => 5040 | 8 => 40320 | 9 => 362880 | 10 => 3628800 | 11 => 39916800 | _ => 479001600
def strV : Nat → Int64
  | 0 => 1 | 1 => 0 | 2 => 1 | 3 => 2 | 4 => 9 | 5 => 44 | 6 => 265 | 7 => 1854 | 8 => 14833 | 9 => 133496 | 10 => 1334961 | 11 => 14684570 | _ => 176214841
def kZ (tF tS : Nat) (A : Nat → Prop) (U : State) (H : Heap) : Prop := va_Z RX9 "FACTORIALS" "[J" (.ref tF) A U H ∧ va_T .long tF 13 (fun j => .long (factV j)) A U H ∧ va_Z RX9 "STRANGERS" "[J" (.ref tS) A U H ∧ va_T .long tS 13 (fun j => .long (strV j)) A U H
theorem kZ.moved {tF tS : Nat} {A : Nat → Prop} {u U : State} {H : Heap} (hvm : u.vm.Alike U.vm) (h : kZ tF tS A u H) : kZ tF tS A U H := ⟨h.1.moved hvm, h.2.1.moved hvm, h.2.2.1.moved hvm, h.2.2.2.moved hvm⟩
theorem kZ.kept {tF tS : Nat} {A : Nat → Prop} {U : State} {H H1 : Heap} (h : kZ tF tS A U H) (hq : ∀ a : Nat, a < H.size → ¬ A a → H1[a]? = H[a]?) : kZ tF tS A U H1 := ⟨h.1.kept hq, h.2.1.kept hq, h.2.2.1.kept hq, h.2.2.2.kept hq⟩
theorem kZ.narrow {tF tS : Nat} {A B : Nat → Prop} {U : State} {H : Heap} (h : kZ tF tS A U H) (hAB : ∀ q, B q → A q) : kZ tF tS B U H := ⟨h.1.narrow hAB, h.2.1.narrow hAB, h.2.2.1.narrow hAB, h.2.2.2.narrow hAB⟩
def CTz (l : Launch) (D : va_G) (cI cZ : ClassId) (tF tS : Nat) (y : MethodName) (wy : List Cond) (rm : Room) (av : List Value) (ret : Option Value) : Prop :=
  ∀ sz : Nat, Met l y wy rm (va_Pc av (fun U => U.heap.size = sz ∧ kX D cI cZ U ∧ kZ tF tS (va_A [] sz) U U.heap)) (kQ D [] sz ret []) 0 0 (va_A [] sz)
theorem CTz.intro {l : Launch} {D : va_G} {cI cZ : ClassId} {tF tS : Nat} {y : MethodName} {wy wy' : List Cond} {rm : Room} {av : List Value} {ret : Option Value} {cc : ByteArray} {nL : Nat} {rt : Option FieldType} (own : String) (hy : plainName y.cls = true) (hw : wy = Cond.code y cc nL rt :: wy') (hlen : (lg_sl av).length ≤ nL) (ho : y.cls = own)
    (body : ∀ (p : Program) (e : Env) (s : State) (m : MethodId) (below : List Frame) (meth : Method) (c : Code), kC p s m av.toArray meth c cc nL wy own D cI cZ (va_A [] s.heap.size) → meth.sig.returnType = rt → kZ tF tS (va_A [] s.heap.size) s s.heap → kW D (va_A [] s.heap.size) s s.heap [] [] → ∀ ls : Array Slot, lv_has ls nL (lv_args 0 av) →
      W p l e rm s m av.toArray below meth c s.heap [] 0 0 (MQ below (kQ D [] s.heap.size ret []) av.toArray s 0 0 (va_A [] s.heap.size)) (F0 m 0 ls [])) : CTz l D cI cZ tF tS y wy rm av ret := by
  intro sz
  refine Met.ofW (cc := cc) (maxL := nL) (ret := rt) hy hw ?_
  intro p e s m args below meth c s₁ B hml hv
  obtain ⟨rfl, hsz, hK, hz⟩ := hv
  subst hsz
  have hts := atoms_spec (ws := wy) B.pre
  have hown : s.vm.findClass y.cls = some m.cls := findClass_of_methodNamed B.named
  rw [ho] at hown
  rw [lg_entry_eq]
  exact body p e s m below meth c ⟨⟨B.exec, B.bytes, hml, hown, hts⟩, hK, fun q h => Or.inr h, B.notSynchronized⟩ B.returns hz ⟨fun k q h => by simp at h, ⟨fun i j p q h => by simp at h, fun k q h => by simp at h⟩, va_S.rf⟩ _ (lv_entry av hlen)
section stat
variable {p : Program} {l : Launch} {e : Env} {R : Room} {s : State} {m : MethodId} {args : Array Value} {below : List Frame} {meth : Method} {c : Code} {H : Heap} {locs : List Loc} {cells slots : Nat} {Q : State → Prop} {D : va_G} {cI cZ : ClassId} {A : Nat → Prop} {ws : va_W} {cc : ByteArray} {nL : Nat} {Ts : List Cond} {own : String} {ls : Array Slot} {rest st0 : List Value} {pc tF tS : Nat}
theorem k_getF (C : kC p s m args meth c cc nL Ts own D cI cZ A) (hw : kW D A s H locs ws) (hz : kZ tF tS A s s.heap) {index : Nat} (hlink : Cond.fieldLink own index RX9 "FACTORIALS" "[J" ∈ Ts) (hdg : decode cc pc = .ok (.getstatic index, 3))
    (kk : W p l e R s m args below meth c H locs cells slots Q (F0 m (pc + 3) ls (.ref tF :: rest))) : W p l e R s m args below meth c H locs cells slots Q (F0 m pc ls rest) :=
  va_gets C.hx C.hb hz.1 hw.2.2 C.hown (C.hts _ hlink) (fun _ h => h) hdg kk
theorem k_getS (C : kC p s m args meth c cc nL Ts own D cI cZ A) (hw : kW D A s H locs ws) (hz : kZ tF tS A s s.heap) {index : Nat} (hlink : Cond.fieldLink own index RX9 "STRANGERS" "[J" ∈ Ts) (hdg : decode cc pc = .ok (.getstatic index, 3))
    (kk : W p l e R s m args below meth c H locs cells slots Q (F0 m (pc + 3) ls (.ref tS :: rest))) : W p l e R s m args below meth c H locs cells slots Q (F0 m pc ls rest) :=
  va_gets C.hx C.hb hz.2.2.1 hw.2.2 C.hown (C.hts _ hlink) (fun _ h => h) hdg kk
theorem k_laldF (C : kC p s m args meth c cc nL Ts own D cI cZ A) (hw : kW D A s H locs ws) (hz : kZ tF tS A s s.heap) {i : Int32} (hin : vp_in i 13) (hdg : decode cc pc = .ok (.laload, 1))
    (kk : W p l e R s m args below meth c H locs cells slots Q (F0 m (pc + 1) ls (.long (factV i.toNatClampNeg) :: rest))) : W p l e R s m args below meth c H locs cells slots Q (F0 m pc ls (.int i :: .ref tF :: rest)) :=
  va_tl C.hx C.hb hz.2.1 hw.2.2 hin rfl hdg kk
theorem k_laldS (C : kC p s m args meth c cc nL Ts own D cI cZ A) (hw : kW D A s H locs ws) (hz : kZ tF tS A s s.heap) {i : Int32} (hin : vp_in i 13) (hdg : decode cc pc = .ok (.laload, 1))
    (kk : W p l e R s m args below meth c H locs cells slots Q (F0 m (pc + 1) ls (.long (strV i.toNatClampNeg) :: rest))) : W p l e R s m args below meth c H locs cells slots Q (F0 m pc ls (.int i :: .ref tS :: rest)) :=
  va_tl C.hx C.hb hz.2.2.2 hw.2.2 hin rfl hdg kk
theorem k_blindz {av : List Value} {sz : Nat} : FrameBlind (va_Pc av (fun U => U.heap.size = sz ∧ kX D cI cZ U ∧ kZ tF tS (va_A [] sz) U U.heap)) := fun a U g mk q => by
  obtain ⟨q0, q1, qK, qZ⟩ := q
  exact ⟨q0, q1, qK.call g mk a, kZ.moved (u := U) (U := U.calling g mk a) (Vm.Alike.refl U.vm) qZ⟩
theorem k_prez {av : List Value} (C : kC p s m args meth c cc nL Ts own D cI cZ A) (hw : kW D A s H locs ws) (hz : kZ tF tS A s s.heap) (U : State) (hU : U.heap = H) (hW : s.WarmedH U.vm) : va_Pc av (fun U => U.heap.size = H.size ∧ kX D cI cZ U ∧ kZ tF tS (va_A [] H.size) U U.heap) av.toArray U := by
  refine ⟨rfl, by rw [hU], C.2.1.warm hW, ?_⟩
  rw [hU]
  refine ((hz.kept hw.2.2.2.1).moved hW.alike).narrow ?_
  rintro q (⟨k, e, h⟩ | h)
  · simp at h
  · exact C.2.2.1 q (Nat.le_trans hw.2.2.1 h)
theorem k_callSz {y : MethodName} {wy wy' : List Cond} {rm : Room} {As : List Value} {ret : Option Value} {index maxL n : Nat} {bytes : ByteArray} {rt : Option FieldType} (C : kC p s m args meth c cc nL Ts own D cI cZ A) (hw : kW D A s H locs ws) (hz : kZ tF tS A s s.heap) (hM : CTz l D cI cZ tF tS y wy rm As ret)
    (hG : GoodIn Ts (va_wsS own index y wy)) (hwy : wy = Cond.code y bytes maxL rt :: wy') (hrm : rm.cells = 0 ∧ rm.slots = 0) (hd : y.cls ≠ "java/lang/invoke/MethodHandle" ∧ y.cls ≠ "java/lang/invoke/VarHandle" ∧ (parseMethodDescriptor y.desc).map (fun d => d.parameters.length) = some n) (hR : rm.frames + 1 ≤ R.frames ∧ 8 + (maxL + 11) + rm.locals ≤ R.locals)
    (hn : As.length = n) (hsz : ls.size = nL) (hst : st0 = As.reverse ++ rest) (hrest : (rest.map fun v => v.category).sum ≤ 8) (hcs : cells ≤ R.cells ∧ slots ≤ R.slots) (hdg : decode cc pc = .ok (.invokestatic index, 3))
    (kk : ∀ (H1 : Heap) (locs1 : List Loc), kW D A s H1 locs1 ws → W p l e R s m args below meth c H1 locs1 cells slots Q (F0 m (pc + 3) ls (ret.toList ++ rest))) : W p l e R s m args below meth c H locs cells slots Q (F0 m pc ls st0) :=
  k_call C.2.2.1 hw [] rfl [] rfl rfl (va_runS C.1 (hM H.size) (va_cwS n C.hts hG hwy hrm.1 hrm.2 hd hR) ⟨k_blindz, k_prez C hw hz⟩ rfl hn hsz hst (lv_room hrest) hdg hcs) kk
theorem k_callVz {y : MethodName} {wy wy' : List Cond} {rm : Room} {b : Nat} {As : List Value} {ret : Option Value} {CC : String} {index maxL n : Nat} {bytes : ByteArray} {rt : Option FieldType} (C : kC p s m args meth c cc nL Ts own D cI cZ A) (hw : kW D A s H locs ws) (hz : kZ tF tS A s s.heap) (hM : CTz l D cI cZ tF tS y wy rm (.ref b :: As) ret)
    (hG : GoodIn Ts (wsV own index CC y wy)) (hwy : wy = Cond.code y bytes maxL rt :: wy') (hrm : rm.cells = 0 ∧ rm.slots = 0) (hd : y.cls = CC ∧ y.cls ≠ "java/lang/invoke/MethodHandle" ∧ y.cls ≠ "java/lang/invoke/VarHandle" ∧ (parseMethodDescriptor y.desc).map (fun d => d.parameters.length) = some n) (hR : rm.frames + 1 ≤ R.frames ∧ 8 + (maxL + 11) + rm.locals ≤ R.locals)
    (q0 : Nat) {ci : Nat} {fs : List Value} {T : u_T} {N : Nat} (he : ws[q0]? = some (b, .inr (ci, fs))) (hc : vwCl[ci]? = some (CC, T, N)) (hn : As.length = n) (hsz : ls.size = nL) (hst : st0 = As.reverse ++ .ref b :: rest) (hrest : (rest.map fun v => v.category).sum ≤ 8) (hcs : cells ≤ R.cells ∧ slots ≤ R.slots) (hdg : decode cc pc = .ok (.invokevirtual index, 3))
    (kk : ∀ (H1 : Heap) (locs1 : List Loc), kW D A s H1 locs1 ws → W p l e R s m args below meth c H1 locs1 cells slots Q (F0 m (pc + 3) ls (ret.toList ++ rest))) : W p l e R s m args below meth c H locs cells slots Q (F0 m pc ls st0) :=
  k_call C.2.2.1 hw [] rfl [] rfl rfl (va_runV C.1 (hM H.size) (cwV n C.hts hG hwy hrm.1 hrm.2 hd hR) ⟨k_blindz, va_recv C.2.1.1 hw.1 hc he, k_prez C hw hz⟩ rfl hn hsz hst (lv_room hrest) hdg hcs) kk
end stat
