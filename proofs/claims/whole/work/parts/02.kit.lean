/-! MY KIT: contracts of methods that make nothing; their calls. -/
abbrev TY (cI cS : ClassId) : List (ClassId × FieldType) := [(cI, .int), (cS, .object RX2)]
/-- the links to nest mates' private methods (no word lists hold them: they ride in the state) -/
def kNst : List (String × Nat × MethodName × String) := [(RX3, 19, yX0_init, "LieNights"), (RX3, 33, yX1_init, "LieNights"), (RX3, 49, yX2_init, "LieNights"), (RX2, 26, yX3_within, "LieNights"), (RX2, 34, yX3_at, "LieNights"), (RX2, 30, yX3_write, "LieNights"), (RX1, 35, yX3_write, "LieNights"), (RX1, 31, yX3_at, "LieNights"), (RX0, 40, yX3_write, "LieNights"), (RX0, 57, yX3_has, "LieNights"), (RX0, 26, yX3_at, "LieNights")]
def kNw (U : State) : Prop := ∀ q ∈ kNst, va_Nw (.methodLinkNest q.1 q.2.1 q.2.2.1 q.2.2.2) U
theorem kNw.warm {s U : State} (hW : s.WarmedH U.vm) (h : kNw s) : kNw U := fun q hq => va_Nw.warmM hW (h q hq)
theorem kNw.same {s U : State} (h1 : s.vm = U.vm) (h : kNw s) : kNw U := fun q hq => va_Nw.same rfl h1 (h q hq)
theorem kNw.at {s : State} (h : kNw s) (i : Nat) {q : String × Nat × MethodName × String} (hi : kNst[i]? = some q) : va_Nw (.methodLinkNest q.1 q.2.1 q.2.2.1 q.2.2.2) s := h q (List.mem_of_getElem? hi)
/-- what the tables say -/
def kK (D : va_G) (cI cS : ClassId) (U : State) : Prop := va_K D vwCl (TY cI cS) U ∧ kNw U
theorem kK.warm {D : va_G} {cI cS : ClassId} {s U : State} (hW : s.WarmedH U.vm) (h : kK D cI cS s) : kK D cI cS U := ⟨va_K.moved hW.alike h.1, h.2.warm hW⟩
theorem kK.calling {D : va_G} {cI cS : ClassId} {U : State} {g : JFrame} {mk : MethodId} {a : Array Value} (h : kK D cI cS U) : kK D cI cS (U.calling g mk a) := ⟨va_K.moved (u := U) (U := U.calling g mk a) (Vm.Alike.refl U.vm) h.1, h.2.same rfl⟩
/-- the addresses of a world -/
def kA (ww : va_W) : Nat → Prop := fun q => q ∈ ww.map Prod.fst
def kB (D : va_G) (cI cS : ClassId) (ww : va_W) (U : State) : Prop := kK D cI cS U ∧ va_P D vwCl ww U.heap
def kBD (D : va_G) (cI cS : ClassId) (ww : va_W) (U : State) : Prop := kB D cI cS ww U ∧ va_D (fun _ => True) ww
theorem kB_blind {D : va_G} {cI cS : ClassId} {ww : va_W} {av : List Value} : FrameBlind (va_Pc av (kB D cI cS ww)) := fun _ _ _ _ h => ⟨h.1, h.2.1.calling, h.2.2⟩
theorem kBD_blind {D : va_G} {cI cS : ClassId} {ww : va_W} {av : List Value} : FrameBlind (va_Pc av (kBD D cI cS ww)) := fun _ _ _ _ h => ⟨h.1, ⟨h.2.1.1.calling, h.2.1.2⟩, h.2.2⟩
theorem kB_of {D : va_G} {cI cS : ClassId} {wc : va_W} {s : State} {H : Heap} (hK : kK D cI cS s) (hP : va_P D vwCl wc H) (av : List Value) : ∀ U : State, U.heap = H → s.WarmedH U.vm → va_Pc av (kB D cI cS wc) av.toArray U := fun U hU hW => ⟨rfl, hK.warm hW, by rw [hU]; exact hP⟩
theorem kBD_of {D : va_G} {cI cS : ClassId} {A : Nat → Prop} {wc : va_W} {s : State} {H : Heap} (hK : kK D cI cS s) (hP : va_P D vwCl wc H) (hD : va_D A wc) (av : List Value) : ∀ U : State, U.heap = H → s.WarmedH U.vm → va_Pc av (kBD D cI cS wc) av.toArray U := fun U hU hW => ⟨rfl, ⟨hK.warm hW, by rw [hU]; exact hP⟩, hD.weaken (fun _ _ _ _ => trivial)⟩
/-! contracts -/
abbrev PMi (l : Launch) (y : MethodName) (ws : List Cond) (rm : Room) (D : va_G) (cI cS : ClassId) (ww : va_W) (av : List Value) (r : Int32) : Prop := Met l y ws rm (va_Pc av (kB D cI cS ww)) (vp_Si (fun x => x = r)) 0 0 (fun _ => False)
abbrev PMl (l : Launch) (y : MethodName) (ws : List Cond) (rm : Room) (D : va_G) (cI cS : ClassId) (ww : va_W) (av : List Value) (r : Int64) : Prop := Met l y ws rm (va_Pc av (kB D cI cS ww)) (vp_Sl (fun x => x = r)) 0 0 (fun _ => False)
abbrev PMq (l : Launch) (y : MethodName) (ws : List Cond) (rm : Room) (D : va_G) (cI cS : ClassId) (ww : va_W) (av : List Value) (r : Option Nat) : Prop := Met l y ws rm (va_Pc av (kB D cI cS ww)) (va_Sq (fun x => x = r)) 0 0 (fun _ => False)
abbrev kQw (D : va_G) (w1 : va_W) : Unit → State → Prop := fun _ t => va_P D vwCl w1 t.heap
abbrev MMi (l : Launch) (y : MethodName) (ws : List Cond) (rm : Room) (D : va_G) (cI cS : ClassId) (ww : va_W) (av : List Value) (r : Int32) (w1 : va_W) : Prop := Met l y ws rm (va_Pc av (kBD D cI cS ww)) (va_Qi (fun x (_ : Unit) => x = r) (kQw D w1) (kA ww)) 0 0 (kA ww)
abbrev MMl (l : Launch) (y : MethodName) (ws : List Cond) (rm : Room) (D : va_G) (cI cS : ClassId) (ww : va_W) (av : List Value) (r : Int64) (w1 : va_W) : Prop := Met l y ws rm (va_Pc av (kBD D cI cS ww)) (va_Ql (fun x (_ : Unit) => x = r) (kQw D w1) (kA ww)) 0 0 (kA ww)
abbrev MMv (l : Launch) (y : MethodName) (ws : List Cond) (rm : Room) (D : va_G) (cI cS : ClassId) (ww : va_W) (av : List Value) (w1 : va_W) : Prop := Met l y ws rm (va_Pc av (kBD D cI cS ww)) (va_Qv (fun (_ : Unit) => True) (kQw D w1) (kA ww)) 0 0 (kA ww)
abbrev MMq (l : Launch) (y : MethodName) (ws : List Cond) (rm : Room) (D : va_G) (cI cS : ClassId) (ww : va_W) (av : List Value) (r : Option Nat) (w1 : va_W) : Prop := Met l y ws rm (va_Pc av (kBD D cI cS ww)) (va_Qq (fun x (_ : Unit) => x = r) (kQw D w1) (kA ww)) 0 0 (kA ww)
/-! entries -/
theorem kEnter {l : Launch} {y : MethodName} {ws ws' : List Cond} {rm : Room} {D : va_G} {cI cS : ClassId} {ww : va_W} {av : List Value} {Qc : Array Value → State → Outcome → State → Prop} {free : Addr → Prop} {cc : ByteArray} {maxL : Nat} {ret : Option FieldType}
    (hy : plainName y.cls = true) (hw : ws = Cond.code y cc maxL ret :: ws') (hlen : (lg_sl av).length ≤ maxL)
    (body : ∀ (p : Program) (e : Env) (s : State) (m : MethodId) (below : List Frame) (meth : Method) (c : Code) (ls : Array Slot) (Qf : State → Prop), Qf = MQ below Qc av.toArray s 0 0 free → p.tables.exec = Jvm.exec → c.code = cc → c.maxLocals = maxL → meth.sig.returnType = ret → meth.locks = false → s.vm.findClass y.cls = some m.cls → (∀ w ∈ ws, w.before av.toArray s = true) → kK D cI cS s → va_P D vwCl ww s.heap → lv_has ls maxL (lv_args 0 av) →
      W p l e rm s m av.toArray below meth c s.heap [] 0 0 Qf (F0 m 0 ls [])) : Met l y ws rm (va_Pc av (kB D cI cS ww)) Qc 0 0 free := by
  refine Met.ofW (cc := cc) (maxL := maxL) (ret := ret) hy hw ?_
  intro p e s m args below meth c s₁ B hml hv
  obtain ⟨rfl, hK, hP⟩ := hv
  rw [lg_entry_eq]
  exact body p e s m below meth c _ _ rfl B.exec B.bytes hml B.returns B.notSynchronized (findClass_of_methodNamed B.named) (atoms_spec (ws := ws) B.pre) hK hP (lv_entry av hlen)
theorem va_D.kA {ww : va_W} {A : Nat → Prop} (h : va_D A ww) : va_D (kA ww) ww := ⟨h.1, fun _ q hq => List.mem_map.mpr ⟨q, List.mem_of_getElem? hq, rfl⟩⟩
theorem kEnterM {l : Launch} {y : MethodName} {ws ws' : List Cond} {rm : Room} {D : va_G} {cI cS : ClassId} {ww : va_W} {av : List Value} {Qc : Array Value → State → Outcome → State → Prop} {free : Addr → Prop} {cc : ByteArray} {maxL : Nat} {ret : Option FieldType}
    (hy : plainName y.cls = true) (hw : ws = Cond.code y cc maxL ret :: ws') (hlen : (lg_sl av).length ≤ maxL)
    (body : ∀ (p : Program) (e : Env) (s : State) (m : MethodId) (below : List Frame) (meth : Method) (c : Code) (ls : Array Slot) (Qf : State → Prop), Qf = MQ below Qc av.toArray s 0 0 free → p.tables.exec = Jvm.exec → c.code = cc → c.maxLocals = maxL → meth.sig.returnType = ret → meth.locks = false → s.vm.findClass y.cls = some m.cls → (∀ w ∈ ws, w.before av.toArray s = true) → kK D cI cS s → va_P D vwCl ww s.heap → va_D (kA ww) ww → va_S (kA ww) s.heap s.heap [] → lv_has ls maxL (lv_args 0 av) →
      W p l e rm s m av.toArray below meth c s.heap [] 0 0 Qf (F0 m 0 ls [])) : Met l y ws rm (va_Pc av (kBD D cI cS ww)) Qc 0 0 free := by
  refine Met.ofW (cc := cc) (maxL := maxL) (ret := ret) hy hw ?_
  intro p e s m args below meth c s₁ B hml hv
  obtain ⟨rfl, ⟨hK, hP⟩, hD⟩ := hv
  rw [lg_entry_eq]
  exact body p e s m below meth c _ _ rfl B.exec B.bytes hml B.returns B.notSynchronized (findClass_of_methodNamed B.named) (atoms_spec (ws := ws) B.pre) hK hP hD.kA va_S.rf (lv_entry av hlen)
/-! worlds: some cells anew, at their places -/
def kSet : va_W → List Nat → va_W → va_W
  | ws, [], _ => ws
  | ws, _ :: _, [] => ws
  | ws, i :: is, q :: qs => kSet (ws.set i q) is qs
theorem kSet_get : ∀ (is : List Nat) (ws w1 : va_W) (j : Nat) (q : Nat × va_E), (kSet ws is w1)[j]? = some q → (∃ k : Nat, is[k]? = some j ∧ w1[k]? = some q) ∨ (ws[j]? = some q ∧ ∀ k : Nat, is[k]? = some j → w1.length ≤ k) := by
  intro is
  induction is with
  | nil => intro ws w1 j q h; exact Or.inr ⟨by simpa [kSet] using h, fun k hk => by simp at hk⟩
  | cons i is ih =>
    intro ws w1 j q h
    cases w1 with
    | nil => exact Or.inr ⟨by simpa [kSet] using h, fun k _ => Nat.zero_le k⟩
    | cons q0 qs =>
      rcases ih (ws.set i q0) qs j q (by simpa [kSet] using h) with ⟨k, h1, h2⟩ | ⟨h1, h2⟩
      · exact Or.inl ⟨k + 1, by simpa using h1, by simpa using h2⟩
      · by_cases hij : i = j
        · subst hij
          rw [List.getElem?_set] at h1
          simp only [if_true] at h1
          split at h1
          · exact Or.inl ⟨0, rfl, by simpa using h1⟩
          · cases h1
        · rw [List.getElem?_set_ne hij] at h1
          refine Or.inr ⟨h1, fun k hk => ?_⟩
          cases k with
          | zero => exact absurd (by simpa using hk) hij
          | succ k => exact Nat.succ_le_succ (h2 k (by simpa using hk))
theorem kPick {D : va_G} {cl : List vw_C} {ws wc : va_W} {H : Heap} (hP : va_P D cl ws H) (is : List Nat) (hC : is.map (fun i => ws[i]?) = wc.map some) : va_P D cl wc H := by
  intro k q hq
  have h1 : (is.map (fun i => ws[i]?))[k]? = some (some q) := by rw [hC, List.getElem?_map, hq]; rfl
  rw [List.getElem?_map] at h1
  cases hi : is[k]? with
  | none => rw [hi] at h1; cases h1
  | some i => rw [hi] at h1; exact hP i q (Option.some.inj h1)
theorem kJoin {A0 : Nat → Prop} {D : va_G} {cl : List vw_C} {ws wc w1 : va_W} {H H1 : Heap} (hP : va_P D cl ws H) (hD : va_D A0 ws) (is : List Nat) (hC : is.map (fun i => ws[i]?) = wc.map some) (hf : w1.map Prod.fst = wc.map Prod.fst) (hk : ∀ q : Nat, q < H.size → ¬ kA wc q → H1[q]? = H[q]?) (hP1 : va_P D cl w1 H1) : va_P D cl (kSet ws is w1) H1 ∧ va_D A0 (kSet ws is w1) := by
  have hlen : w1.length = wc.length := by have := congrArg List.length hf; simpa using this
  have hlen2 : is.length = wc.length := by have := congrArg List.length hC; simpa using this
  have look : ∀ (k i : Nat), is[k]? = some i → ∃ q, wc[k]? = some q ∧ ws[i]? = some q := by
    intro k i hi
    have hk : k < wc.length := by rw [← hlen2]; exact (List.getElem?_eq_some_iff.mp hi).1
    refine ⟨wc[k], List.getElem?_eq_getElem hk, ?_⟩
    have h1 : (is.map (fun i => ws[i]?))[k]? = (wc.map some)[k]? := by rw [hC]
    rw [List.getElem?_map, List.getElem?_map, hi, List.getElem?_eq_getElem hk] at h1
    exact Option.some.inj h1
  have addr : ∀ (k : Nat) (q c : Nat × va_E), w1[k]? = some q → wc[k]? = some c → q.1 = c.1 := by
    intro k q c h1 h2
    have h3 : (w1.map Prod.fst)[k]? = (wc.map Prod.fst)[k]? := by rw [hf]
    rw [List.getElem?_map, List.getElem?_map, h1, h2] at h3
    exact Option.some.inj h3
  have old : ∀ (j : Nat) (q : Nat × va_E), (kSet ws is w1)[j]? = some q → ∃ q0, ws[j]? = some q0 ∧ q0.1 = q.1 := by
    intro j q h
    rcases kSet_get is ws w1 j q h with ⟨k, h1, h2⟩ | ⟨h1, -⟩
    · obtain ⟨c, h3, h4⟩ := look k j h1
      exact ⟨c, h4, (addr k q c h2 h3).symm⟩
    · exact ⟨q, h1, rfl⟩
  refine ⟨fun j q h => ?_, fun i j p q hp hq hpq => ?_, fun j q h => ?_⟩
  · rcases kSet_get is ws w1 j q h with ⟨k, h1, h2⟩ | ⟨h1, h2⟩
    · exact hP1 k q h2
    · refine (hP j q h1).kept (hk q.1 (hP j q h1).lt (fun hA => ?_))
      obtain ⟨c, hc, he⟩ := List.mem_map.mp hA
      obtain ⟨k, hk2⟩ := List.getElem?_of_mem hc
      have hkl : k < is.length := by rw [hlen2]; exact (List.getElem?_eq_some_iff.mp hk2).1
      have hik : is[k]? = some is[k] := List.getElem?_eq_getElem hkl
      obtain ⟨c', h3, h4⟩ := look k is[k] hik
      have hcc : c' = c := Option.some.inj (h3.symm.trans hk2)
      subst hcc
      have hj : is[k] = j := hD.1 _ _ _ _ h4 h1 he
      rw [hj] at hik
      have h5 := h2 k hik
      omega
  · obtain ⟨p0, h1, h2⟩ := old i p hp
    obtain ⟨q0, h3, h4⟩ := old j q hq
    exact hD.1 i j p0 q0 h1 h3 (by rw [h2, h4]; exact hpq)
  · obtain ⟨q0, h1, h2⟩ := old j q h
    rw [← h2]
    exact hD.2 j q0 h1
theorem kFree {A0 : Nat → Prop} {ws wc : va_W} (hD : va_D A0 ws) (is : List Nat) (hC : is.map (fun i => ws[i]?) = wc.map some) : ∀ q, kA wc q → A0 q := by
  intro q hq
  obtain ⟨c, hc, he⟩ := List.mem_map.mp hq
  obtain ⟨k, hk⟩ := List.getElem?_of_mem hc
  have h1 : (is.map (fun i => ws[i]?))[k]? = some (some c) := by rw [hC, List.getElem?_map, hk]; rfl
  rw [List.getElem?_map] at h1
  cases hi : is[k]? with
  | none => rw [hi] at h1; cases h1
  | some i => rw [hi] at h1; rw [← he]; exact hD.2 i c (Option.some.inj h1)
theorem va_D.same {A : Nat → Prop} {ws ws' : va_W} (h : va_D A ws) (he : ws'.map Prod.fst = ws.map Prod.fst) : va_D A ws' := by
  have old : ∀ (j : Nat) (q : Nat × va_E), ws'[j]? = some q → ∃ q0, ws[j]? = some q0 ∧ q0.1 = q.1 := by
    intro j q hj
    have h3 : (ws'.map Prod.fst)[j]? = (ws.map Prod.fst)[j]? := by rw [he]
    rw [List.getElem?_map, List.getElem?_map, hj] at h3
    cases hw : ws[j]? with
    | none => rw [hw] at h3; cases h3
    | some q0 => rw [hw] at h3; exact ⟨q0, rfl, (Option.some.inj h3).symm⟩
  refine ⟨fun i j p q hp hq hpq => ?_, fun j q hj => ?_⟩
  · obtain ⟨p0, h1, h2⟩ := old i p hp
    obtain ⟨q0, h3, h4⟩ := old j q hq
    exact h.1 i j p0 q0 h1 h3 (by rw [h2, h4]; exact hpq)
  · obtain ⟨q0, h1, h2⟩ := old j q hj
    rw [← h2]; exact h.2 j q0 h1
section KC
variable {p : Program} {l : Launch} {e : Env} {R : Room} {s : State} {m : MethodId} {args : Array Value} {below : List Frame} {meth : Method} {c : Code} {H : Heap} {locs : List Loc} {cells slots : Nat} {Q : State → Prop}
variable {pc : Nat} {ls : Array Slot} {rest st0 : List Value} {a : Array Value} {A0 : Nat → Prop} {H0 : Heap} {D : va_G}
/-- a call that writes nothing -/
theorem kPi {r : Int32} (hr : va_Run p l e R s m args below meth c H locs cells slots 0 0 (F0 m pc ls st0) rest (vp_Si (fun x => x = r) a) (fun _ => False))
    (kk : W p l e R s m args below meth c H locs cells slots Q (F0 m (pc + 3) ls (.int r :: rest))) : W p l e R s m args below meth c H locs cells slots Q (F0 m pc ls st0) := by
  intro T hT X
  obtain ⟨v, st₀, t, T', L, h0, X', hL, e1, -, ⟨r', hv, hp, hh⟩, st⟩ := hr T hT X
  cases hv
  subst hp
  obtain ⟨t2, a1, b1⟩ := kk T' (by rw [e1, hh, h0]) (Stand.forget X' (fun q h => (hL q h).elim))
  exact ⟨t2, st t2 a1, b1⟩
theorem kPl {r : Int64} (hr : va_Run p l e R s m args below meth c H locs cells slots 0 0 (F0 m pc ls st0) rest (vp_Sl (fun x => x = r) a) (fun _ => False))
    (kk : W p l e R s m args below meth c H locs cells slots Q (F0 m (pc + 3) ls (.long r :: rest))) : W p l e R s m args below meth c H locs cells slots Q (F0 m pc ls st0) := by
  intro T hT X
  obtain ⟨v, st₀, t, T', L, h0, X', hL, e1, -, ⟨r', hv, hp, hh⟩, st⟩ := hr T hT X
  cases hv
  subst hp
  obtain ⟨t2, a1, b1⟩ := kk T' (by rw [e1, hh, h0]) (Stand.forget X' (fun q h => (hL q h).elim))
  exact ⟨t2, st t2 a1, b1⟩
theorem kPq {r : Option Nat} (hr : va_Run p l e R s m args below meth c H locs cells slots 0 0 (F0 m pc ls st0) rest (va_Sq (fun x => x = r) a) (fun _ => False))
    (kk : W p l e R s m args below meth c H locs cells slots Q (F0 m (pc + 3) ls (va_rf r :: rest))) : W p l e R s m args below meth c H locs cells slots Q (F0 m pc ls st0) := by
  intro T hT X
  obtain ⟨v, st₀, t, T', L, h0, X', hL, e1, -, ⟨r', hv, hp, hh⟩, st⟩ := hr T hT X
  cases hv
  subst hp
  obtain ⟨t2, a1, b1⟩ := kk T' (by rw [e1, hh, h0]) (Stand.forget X' (fun q h => (hL q h).elim))
  exact ⟨t2, st t2 a1, b1⟩
/-- a call that writes into some of the world's cells -/
theorem kMi {wl wl' wc w1 : va_W} {r : Int32} (hP : va_P D vwCl wl H) (hD : va_D A0 wl) (hS : va_S A0 H0 H locs) (is : List Nat) (hC : is.map (fun i => wl[i]?) = wc.map some) (hf : w1.map Prod.fst = wc.map Prod.fst) (hset : kSet wl is w1 = wl')
    (hr : va_Run p l e R s m args below meth c H locs cells slots 0 0 (F0 m pc ls st0) rest (va_Qi (fun x (_ : Unit) => x = r) (kQw D w1) (kA wc) a) (kA wc))
    (kk : ∀ (H1 : Heap) (locs1 : List Loc), va_P D vwCl wl' H1 → va_D A0 wl' → va_S A0 H0 H1 locs1 → W p l e R s m args below meth c H1 locs1 cells slots Q (F0 m (pc + 3) ls (.int r :: rest))) : W p l e R s m args below meth c H locs cells slots Q (F0 m pc ls st0) := by
  refine va_calli hr hS (fun q _ h => kFree hD is hC q h) (kFree hD is hC) (fun r' u t H1 locs1 ht hvm hw hB hz hk1 hS1 => ?_)
  subst hw; subst ht; subst hset
  obtain ⟨hP1, hD1⟩ := kJoin hP hD is hC hf hk1 hB
  exact kk _ _ hP1 hD1 hS1
theorem kMl {wl wl' wc w1 : va_W} {r : Int64} (hP : va_P D vwCl wl H) (hD : va_D A0 wl) (hS : va_S A0 H0 H locs) (is : List Nat) (hC : is.map (fun i => wl[i]?) = wc.map some) (hf : w1.map Prod.fst = wc.map Prod.fst) (hset : kSet wl is w1 = wl')
    (hr : va_Run p l e R s m args below meth c H locs cells slots 0 0 (F0 m pc ls st0) rest (va_Ql (fun x (_ : Unit) => x = r) (kQw D w1) (kA wc) a) (kA wc))
    (kk : ∀ (H1 : Heap) (locs1 : List Loc), va_P D vwCl wl' H1 → va_D A0 wl' → va_S A0 H0 H1 locs1 → W p l e R s m args below meth c H1 locs1 cells slots Q (F0 m (pc + 3) ls (.long r :: rest))) : W p l e R s m args below meth c H locs cells slots Q (F0 m pc ls st0) := by
  refine va_calll hr hS (fun q _ h => kFree hD is hC q h) (kFree hD is hC) (fun r' u t H1 locs1 ht hvm hw hB hz hk1 hS1 => ?_)
  subst hw; subst ht; subst hset
  obtain ⟨hP1, hD1⟩ := kJoin hP hD is hC hf hk1 hB
  exact kk _ _ hP1 hD1 hS1
theorem kMv {wl wl' wc w1 : va_W} (hP : va_P D vwCl wl H) (hD : va_D A0 wl) (hS : va_S A0 H0 H locs) (is : List Nat) (hC : is.map (fun i => wl[i]?) = wc.map some) (hf : w1.map Prod.fst = wc.map Prod.fst) (hset : kSet wl is w1 = wl')
    (hr : va_Run p l e R s m args below meth c H locs cells slots 0 0 (F0 m pc ls st0) rest (va_Qv (fun (_ : Unit) => True) (kQw D w1) (kA wc) a) (kA wc))
    (kk : ∀ (H1 : Heap) (locs1 : List Loc), va_P D vwCl wl' H1 → va_D A0 wl' → va_S A0 H0 H1 locs1 → W p l e R s m args below meth c H1 locs1 cells slots Q (F0 m (pc + 3) ls rest)) : W p l e R s m args below meth c H locs cells slots Q (F0 m pc ls st0) := by
  refine va_callv hr hS (fun q _ h => kFree hD is hC q h) (kFree hD is hC) (fun u t H1 locs1 ht hvm hw hB hz hk1 hS1 => ?_)
  subst ht; subst hset
  obtain ⟨hP1, hD1⟩ := kJoin hP hD is hC hf hk1 hB
  exact kk _ _ hP1 hD1 hS1
theorem kMq {wl wl' wc w1 : va_W} {r : Option Nat} (hP : va_P D vwCl wl H) (hD : va_D A0 wl) (hS : va_S A0 H0 H locs) (is : List Nat) (hC : is.map (fun i => wl[i]?) = wc.map some) (hf : w1.map Prod.fst = wc.map Prod.fst) (hset : kSet wl is w1 = wl')
    (hr : va_Run p l e R s m args below meth c H locs cells slots 0 0 (F0 m pc ls st0) rest (va_Qq (fun x (_ : Unit) => x = r) (kQw D w1) (kA wc) a) (kA wc))
    (kk : ∀ (H1 : Heap) (locs1 : List Loc), va_P D vwCl wl' H1 → va_D A0 wl' → va_S A0 H0 H1 locs1 → W p l e R s m args below meth c H1 locs1 cells slots Q (F0 m (pc + 3) ls (va_rf r :: rest))) : W p l e R s m args below meth c H locs cells slots Q (F0 m pc ls st0) := by
  refine va_callq hr hS (fun q _ h => kFree hD is hC q h) (kFree hD is hC) (fun r' u t H1 locs1 ht hvm hw hB hz hk1 hS1 => ?_)
  subst hw; subst ht; subst hset
  obtain ⟨hP1, hD1⟩ := kJoin hP hD is hC hf hk1 hB
  exact kk _ _ hP1 hD1 hS1
end KC
section KCM
variable {s : State} {H : Heap} {D : va_G} {cI cS : ClassId} {wc wl : va_W} {A0 : Nat → Prop}
/-- a call's start: pure, static; pure, of an object; writing, static; writing, of an object -/
theorem kPS (hK : kK D cI cS s) (hP : va_P D vwCl wl H) (is : List Nat) (hC : is.map (fun i => wl[i]?) = wc.map some) (As : List Value) : PreS s H (va_Pc As (kB D cI cS wc)) As := ⟨kB_blind, kB_of hK (kPick hP is hC) As⟩
theorem kPV {b : Addr} {C : String} (hK : kK D cI cS s) (hP : va_P D vwCl wl H) (is : List Nat) (hC : is.map (fun i => wl[i]?) = wc.map some) (hr : ∃ cell : Cell, H[b]? = some cell ∧ cell.vm.isStatics = false ∧ s.vm.findClass C = some cell.cls) (As : List Value) : PreV s H C b (va_Pc (.ref b :: As) (kB D cI cS wc)) As := ⟨kB_blind, hr, kB_of hK (kPick hP is hC) (.ref b :: As)⟩
theorem kMS (hK : kK D cI cS s) (hP : va_P D vwCl wl H) (hD : va_D A0 wl) (is : List Nat) (hn : va_nd is = true) (hC : is.map (fun i => wl[i]?) = wc.map some) (As : List Value) : PreS s H (va_Pc As (kBD D cI cS wc)) As := ⟨kBD_blind, kBD_of hK (kPick hP is hC) (hD.sub is hn hC) As⟩
theorem kMV {b : Addr} {C : String} (hK : kK D cI cS s) (hP : va_P D vwCl wl H) (hD : va_D A0 wl) (is : List Nat) (hn : va_nd is = true) (hC : is.map (fun i => wl[i]?) = wc.map some) (hr : ∃ cell : Cell, H[b]? = some cell ∧ cell.vm.isStatics = false ∧ s.vm.findClass C = some cell.cls) (As : List Value) : PreV s H C b (va_Pc (.ref b :: As) (kBD D cI cS wc)) As := ⟨kBD_blind, hr, kBD_of hK (kPick hP is hC) (hD.sub is hn hC) (.ref b :: As)⟩
end KCM
/-! loops -/
def lp {α : Type} (f : Nat → α → α) (a : α) : Nat → α
  | 0 => a
  | k + 1 => f k (lp f a k)
theorem lp_next {α : Type} {f : Nat → α → α} {a x y : α} {k : Nat} (h : lp f a k = x) (hy : f k x = y) : lp f a (k + 1) = y := by show f k (lp f a k) = y; rw [h]; exact hy
def lq {α ρ : Type} (f : Nat → α → α ⊕ ρ) (a : α) : Nat → α ⊕ ρ
  | 0 => .inl a
  | k + 1 => match lq f a k with
    | .inl x => f k x
    | .inr r => .inr r
def lqr {α ρ : Type} (x : α ⊕ ρ) (g : α → ρ) : ρ := match x with
  | .inl a => g a
  | .inr r => r
theorem lq_next {α ρ : Type} {f : Nat → α → α ⊕ ρ} {a x y : α} {k : Nat} (h : lq f a k = .inl x) (hy : f k x = .inl y) : lq f a (k + 1) = .inl y := by
  show (match lq f a k with | .inl x => f k x | .inr r => .inr r) = _
  rw [h]; exact hy
theorem lq_stop {α ρ : Type} {f : Nat → α → α ⊕ ρ} {a : α} {r : ρ} {k : Nat} (h : lq f a k = .inr r) : ∀ n, k ≤ n → lq f a n = .inr r := by
  intro n
  induction n with
  | zero => intro hn; have hk : k = 0 := by omega
            subst hk; exact h
  | succ n ih =>
    intro hn
    rcases Nat.lt_or_ge n k with q | q
    · have hk : k = n + 1 := by omega
      subst hk; exact h
    · show (match lq f a n with | .inl x => f n x | .inr r => .inr r) = _
      rw [ih q]
theorem lq_exit {α ρ : Type} {f : Nat → α → α ⊕ ρ} {a x : α} {r : ρ} {k n : Nat} {g : α → ρ} (h : lq f a k = .inl x) (hy : f k x = .inr r) (hk : k < n) : lqr (lq f a n) g = r := by
  rw [lq_stop (k := k + 1) (by show (match lq f a k with | .inl x => f k x | .inr r => .inr r) = _; rw [h]; exact hy) n hk]
  rfl
theorem lq_end {α ρ : Type} {f : Nat → α → α ⊕ ρ} {a x : α} {n : Nat} {g : α → ρ} (h : lq f a n = .inl x) : lqr (lq f a n) g = g x := by rw [h]; rfl
/-! indices, counters -/
theorem kIn {i : Int32} {N : Nat} (hN : N < 2 ^ 31) (h0 : ¬ i < 0) (h1 : ¬ nI N ≤ i) : vp_in i N := by
  rcases pk_ix i hN with h | h | ⟨j, hj, rfl⟩
  · exact absurd h h0
  · exact absurd h h1
  · exact vp_in_nI hj hN
theorem kLt {k N : Nat} {v n : Int32} (hk : k ≤ N) (hv : v = nI k) (hn : n = nI N) (c : ¬ n ≤ v) : k < N := by
  subst hv; subst hn
  rcases Nat.lt_or_eq_of_le hk with q | q
  · exact q
  · subst q; exact absurd (Int32.le_refl _) c
theorem kEnd {k N : Nat} {v n : Int32} (hk : k ≤ N) (hv : v = nI k) (hn : n = nI N) (hN : N < 2 ^ 31) (c : n ≤ v) : k = N := by
  subst hv; subst hn
  rcases Nat.lt_or_eq_of_le hk with q | q
  · exact absurd c (nI_ge q hN)
  · exact q
theorem kLtG {k N : Nat} {v n : Int32} (hk : k ≤ N + 1) (hv : v = nI k) (hn : n = nI N) (hN : N + 1 < 2 ^ 31) (c : ¬ n < v) : k < N + 1 := by
  subst hv; subst hn
  rcases Nat.lt_or_eq_of_le hk with q | q
  · exact q
  · subst q; exact absurd (nI_lt (Nat.lt_succ_self N) hN) c
theorem kEndG {k N : Nat} {v n : Int32} (hk : k ≤ N + 1) (hv : v = nI k) (hn : n = nI N) (hN : N + 1 < 2 ^ 31) (c : n < v) : k = N + 1 := by
  subst hv; subst hn
  rcases Nat.lt_or_eq_of_le hk with q | q
  · exact absurd c (nI_nlt (by omega) (by omega))
  · exact q
theorem kLtS {k N : Nat} {v n : Int32} (hk : k ≤ N) (hv : v = nI (k + 1)) (hn : n = nI N) (hN : N + 1 < 2 ^ 31) (c : ¬ n < v) : k < N := by
  subst hv; subst hn
  rcases Nat.lt_or_eq_of_le hk with q | q
  · exact q
  · subst q; exact absurd (nI_lt (Nat.lt_succ_self k) hN) c
theorem kEndS {k N : Nat} {v n : Int32} (hk : k ≤ N) (hv : v = nI (k + 1)) (hn : n = nI N) (hN : N + 1 < 2 ^ 31) (c : n < v) : k = N := by
  subst hv; subst hn
  rcases Nat.lt_or_eq_of_le hk with q | q
  · exact absurd c (nI_nlt (by omega) (by omega))
  · exact q
theorem nI_mS (m : Nat) : nI (m + 1) - 1 = nI m := nI_pred m
theorem kDnE {k N : Nat} (hk : k ≤ N) (hN : N < 2 ^ 31) (c : nI (N - k) - 1 < 0) : k = N := by
  rcases Nat.lt_or_eq_of_le hk with q | q
  · obtain ⟨d, hd⟩ : ∃ d, N - k = d + 1 := ⟨N - k - 1, by omega⟩
    rw [hd, nI_pred] at c
    exact absurd c (nI_pos (by omega))
  · exact q
theorem kDnL {k N : Nat} (hk : k ≤ N) (c : ¬ nI (N - k) - 1 < 0) : k < N := by
  rcases Nat.lt_or_eq_of_le hk with q | q
  · exact q
  · subst q; rw [Nat.sub_self] at c; exact absurd (by decide) c
theorem kDnI {k N : Nat} (h : k < N) : nI (N - k) - 1 + (-1) = nI (N - (k + 1)) - 1 := by
  obtain ⟨d, hd⟩ : ∃ d, N - k = d + 1 := ⟨N - k - 1, by omega⟩
  have h2 : N - (k + 1) = d := by omega
  rw [hd, h2, nI_pred, Int32.sub_eq_add_neg]
theorem lp_end {α β : Type} {x y : α} {g : α → β} (h : y = x) : g y = g x := congrArg g h
theorem kShE {k L : Nat} (hk : k ≤ L - 1) (hL : L < 2 ^ 31) (c : nI (L - k) ≤ 1) : k = L - 1 := by
  have h := (nI_leI (a := L - k) (b := 1) (by omega) (by omega)).mp c
  omega
theorem kShL {k L : Nat} (hk : k ≤ L - 1) (c : ¬ nI (L - k) ≤ 1) : k < L - 1 := by
  rcases Nat.lt_or_eq_of_le hk with q | q
  · exact q
  · refine absurd ?_ c
    rcases Nat.eq_zero_or_pos L with h | h
    · rw [show L - k = 0 by omega]; decide
    · rw [show L - k = 1 by omega]; decide
theorem kShI {k L : Nat} (h : k < L - 1) : nI (L - k) + (-1) = nI (L - (k + 1)) := by
  rw [show L - k = (L - (k + 1)) + 1 by omega]; exact pk_m1 _
theorem kShN {k L : Nat} (h : k < L - 1) (hL : L < 2 ^ 31) : ¬ nI (L - k) = 0 := nI_ne0 (by omega) (by omega)
theorem kLtO {k o B : Nat} {v n : Int32} (hk : k ≤ B - o) (ho : o ≤ B) (hv : v = nI (o + k)) (hn : n = nI B) (c : ¬ n ≤ v) : k < B - o := by
  subst hv; subst hn
  rcases Nat.lt_or_eq_of_le hk with q | q
  · exact q
  · rw [show o + k = B by omega] at c; exact absurd (Int32.le_refl _) c
theorem kEndO {k o B : Nat} {v n : Int32} (hk : k ≤ B - o) (ho : o ≤ B) (hB : B < 2 ^ 31) (hv : v = nI (o + k)) (hn : n = nI B) (c : n ≤ v) : k = B - o := by
  subst hv; subst hn
  rcases Nat.lt_or_eq_of_le hk with q | q
  · exact absurd c (nI_ge (by omega) hB)
  · exact q
