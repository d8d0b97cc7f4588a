def kBI (D : va_G) (cI cS : ClassId) (ww : va_W) (sz : Nat) (U : State) : Prop := U.heap.size = sz ∧ kBD D cI cS ww U ∧ va_AO RX2 U
theorem kBI_blind {D : va_G} {cI cS : ClassId} {ww : va_W} {sz : Nat} {av : List Value} : FrameBlind (va_Pc av (kBI D cI cS ww sz)) := fun _ U g mk h => ⟨h.1, h.2.1, ⟨⟨h.2.2.1.1.1.calling, h.2.2.1.1.2⟩, h.2.2.1.2⟩, va_AO.moved (u := U) (U := U.calling g mk _) (Vm.Alike.refl U.vm) h.2.2.2⟩
theorem kBI_of {D : va_G} {cI cS : ClassId} {A : Nat → Prop} {wc : va_W} {s : State} {H : Heap} (hK : kK D cI cS s) (hO : va_AO RX2 s) (hP : va_P D vwCl wc H) (hD : va_D A wc) (av : List Value) : ∀ U : State, U.heap = H → s.WarmedH U.vm → va_Pc av (kBI D cI cS wc H.size) av.toArray U := fun U hU hW => ⟨rfl, by rw [hU], ⟨⟨hK.warm hW, by rw [hU]; exact hP⟩, hD.weaken (fun _ _ _ _ => trivial)⟩, hO.moved hW.alike⟩
abbrev kQi {S : Type} (D : va_G) (Wf : S → va_W) (A : Nat → Prop) : S → State → Prop := fun u t => va_P D vwCl (Wf u) t.heap ∧ va_D A (Wf u)
abbrev MIv {S : Type} (l : Launch) (y : MethodName) (ws : List Cond) (rm : Room) (D : va_G) (cI cS : ClassId) (ww : va_W) (sz : Nat) (av : List Value) (Wf : S → va_W) (mc ms : Nat) : Prop := Met l y ws rm (va_Pc av (kBI D cI cS ww sz)) (va_Qv (fun (_ : S) => True) (kQi D Wf (va_A ww sz)) (va_A ww sz)) mc ms (va_A ww sz)
theorem kEnterI {l : Launch} {y : MethodName} {ws ws' : List Cond} {rm : Room} {D : va_G} {cI cS : ClassId} {ww : va_W} {sz : Nat} {av : List Value} {Qc : Array Value → State → Outcome → State → Prop} {free : Addr → Prop} {cc : ByteArray} {maxL : Nat} {ret : Option FieldType} {mc ms : Nat}
    (hy : plainName y.cls = true) (hw : ws = Cond.code y cc maxL ret :: ws') (hlen : (lg_sl av).length ≤ maxL)
    (body : ∀ (p : Program) (e : Env) (s : State) (m : MethodId) (below : List Frame) (meth : Method) (c : Code) (ls : Array Slot) (Qf : State → Prop), Qf = MQ below Qc av.toArray s mc ms free → s.heap.size = sz → p.tables.exec = Jvm.exec → c.code = cc → c.maxLocals = maxL → meth.sig.returnType = ret → meth.locks = false → meth.name = y.name → s.vm.findClass y.cls = some m.cls → (∀ w ∈ ws, w.before av.toArray s = true) → kK D cI cS s → va_AO RX2 s → va_P D vwCl ww s.heap → va_D (va_A ww sz) ww → va_S (va_A ww sz) s.heap s.heap [] → (∀ q : Nat, s.heap.size ≤ q → va_A ww sz q) → lv_has ls maxL (lv_args 0 av) →
      W p l e rm s m av.toArray below meth c s.heap [] 0 0 Qf (F0 m 0 ls [])) : Met l y ws rm (va_Pc av (kBI D cI cS ww sz)) Qc mc ms free := by
  refine Met.ofW (cc := cc) (maxL := maxL) (ret := ret) hy hw ?_
  intro p e s m args below meth c s₁ B hml hv
  obtain ⟨rfl, hsz, ⟨⟨hK, hP⟩, hD⟩, hO⟩ := hv
  rw [lg_entry_eq]
  exact body p e s m below meth c _ _ rfl hsz B.exec B.bytes hml B.returns B.notSynchronized (name_of_methodNamed B.named B.method).1 (findClass_of_methodNamed B.named) (atoms_spec (ws := ws) B.pre) hK hO hP hD.self va_S.rf (fun q hq => Or.inr (by rw [← hsz]; exact hq)) (lv_entry av hlen)
section KNA
variable {p : Program} {l : Launch} {e : Env} {R : Room} {s : State} {m : MethodId} {args : Array Value} {below : List Frame} {meth : Method} {c : Code} {H : Heap} {locs : List Loc} {cells slots : Nat} {Q : State → Prop}
variable {pc : Nat} {ls : Array Slot} {rest st0 : List Value} {a : Array Value} {A0 : Nat → Prop} {H0 : Heap} {D : va_G} {cc : ByteArray} {cI cS : ClassId} {ws : va_W}
theorem kNewa (hexec : p.tables.exec = Jvm.exec) (hb : c.code = cc) (harr : (Cond.arrayClass .int).before args s = true) (hK : kK D cI cS s) (hP : va_P D vwCl ws H) (hD : va_D A0 ws) (hS : va_S A0 H0 H locs) (hA : ∀ q, H0.size ≤ q → A0 q)
    {n : Int32} {N' : Nat} (hn : ¬ n < 0) (hN : n.toNatClampNeg = N') (hbytes : N' * 4 ≤ 536870912) (hcells : cells + 1 ≤ R.cells) (hslots : slots + N' ≤ R.slots) (hdg : decode cc pc = .ok (.newarray .int, 2))
    (kk : ∀ (q : Nat) (H1 : Heap), va_P D vwCl (ws ++ [(q, .inl (cI, N', .inl (fun _ => 0)))]) H1 → va_D A0 (ws ++ [(q, .inl (cI, N', .inl (fun _ => 0)))]) → va_S A0 H0 H1 locs →
      W p l e R s m args below meth c H1 locs (cells + 1) (slots + N') Q (F0 m (pc + 2) ls (.ref q :: rest))) : W p l e R s m args below meth c H locs cells slots Q (F0 m pc ls (.int n :: rest)) := by
  refine va_newa (ty := .int) (a0 := (N', .inl (fun _ => 0))) hexec hb (atype := .int) harr rfl hK.1 hP hD hS hA (fun cA => rfl) hn hN hbytes hcells hslots hdg (fun q cA H1 hK1 hP1 hD1 hS1 => ?_)
  have h1 : s.vm.findClass ("[" ++ FieldType.int.toString) = some cA := (hK1.2 2 (cA, .int) rfl).2
  have h2 : s.vm.findClass ("[" ++ FieldType.int.toString) = some cI := (hK.1.2 0 (cI, .int) rfl).2
  have h3 : cA = cI := Option.some.inj (h1.symm.trans h2)
  subst h3
  exact kk q H1 hP1 hD1 hS1
theorem kNewq (hexec : p.tables.exec = Jvm.exec) (hb : c.code = cc) {own : String} {index : Nat} (hown : s.vm.findClass own = some m.cls) (hclink : (Cond.classLink own index RX2).before args s = true) (hover : va_AO RX2 s) (hK : kK D cI cS s) (hP : va_P D vwCl ws H) (hD : va_D A0 ws) (hS : va_S A0 H0 H locs) (hA : ∀ q, H0.size ≤ q → A0 q)
    {n : Int32} {N' : Nat} (hn : ¬ n < 0) (hN : n.toNatClampNeg = N') (hbytes : N' * 4 ≤ 536870912) (hcells : cells + 1 ≤ R.cells) (hslots : slots + N' ≤ R.slots) (hdg : decode cc pc = .ok (.anewarray index, 3))
    (kk : ∀ (q : Nat) (H1 : Heap), va_P D vwCl (ws ++ [(q, .inl (cS, N', .inr (.inr (.inr (.inr (fun _ => none))))))]) H1 → va_D A0 (ws ++ [(q, .inl (cS, N', .inr (.inr (.inr (.inr (fun _ => none))))))]) → va_S A0 H0 H1 locs →
      W p l e R s m args below meth c H1 locs (cells + 1) (slots + N') Q (F0 m (pc + 3) ls (.ref q :: rest))) : W p l e R s m args below meth c H locs cells slots Q (F0 m pc ls (.int n :: rest)) := by
  refine va_newq hexec hb hown hclink hover hK.1 hP hD hS hA hn hN hbytes hcells hslots hdg (fun q cA H1 hK1 hP1 hD1 hS1 => ?_)
  obtain ⟨k1, c1, -, -, -, h1⟩ := (hK1.2 2 (cA, .object RX2) rfl).2
  obtain ⟨k2, c2, -, -, -, h2⟩ := (hK.1.2 1 (cS, .object RX2) rfl).2
  have h3 : cA = cS := Option.some.inj (h1.symm.trans h2)
  subst h3
  exact kk q H1 hP1 hD1 hS1
/-- a constructor's call -/
theorem kIv {S : Type} {Wf : S → va_W} {wl wc wr : va_W} {mc ms : Nat} (hP : va_P D vwCl wl H) (hD : va_D A0 wl) (hS : va_S A0 H0 H locs) (hA : ∀ q, H0.size ≤ q → A0 q) (isC isR : List Nat) (hC : isC.map (fun i => wl[i]?) = wc.map some) (hR : isR.map (fun i => wl[i]?) = wr.map some) (hn : va_nd isR = true) (hdis : ∀ i ∈ isR, i ∉ isC)
    (hr : va_Run p l e R s m args below meth c H locs cells slots mc ms (F0 m pc ls st0) rest (va_Qv (fun (_ : S) => True) (kQi D Wf (va_A wc H.size)) (va_A wc H.size) a) (va_A wc H.size))
    (kk : ∀ (u : S) (H1 : Heap) (locs1 : List Loc), va_P D vwCl (wr ++ Wf u) H1 → va_D A0 (wr ++ Wf u) → va_S A0 H0 H1 locs1 → W p l e R s m args below meth c H1 locs1 (cells + mc) (slots + ms) Q (F0 m (pc + 3) ls rest)) : W p l e R s m args below meth c H locs cells slots Q (F0 m pc ls st0) := by
  have hF := va_free hD hS hA isC hC
  refine va_callv hr hS (fun q _ h => hF q h) hF (fun u t H1 locs1 ht hvm hw hB hz hk1 hS1 => ?_)
  subst ht
  obtain ⟨hP1, hD1⟩ := va_join hP hD isC isR hC hR hn hdis hk1 hF hB.1 hB.2
  exact kk u _ _ hP1 hD1 hS1
theorem kIS {b : Addr} {wl wc : va_W} (hK : kK D cI cS s) (hO : va_AO RX2 s) (hP : va_P D vwCl wl H) (hD : va_D A0 wl) (is : List Nat) (hn : va_nd is = true) (hC : is.map (fun i => wl[i]?) = wc.map some) (As : List Value) : PreS s H (va_Pc (.ref b :: As) (kBI D cI cS wc H.size)) (.ref b :: As) := ⟨kBI_blind, kBI_of hK hO (kPick hP is hC) (hD.sub is hn hC) (.ref b :: As)⟩
end KNA
