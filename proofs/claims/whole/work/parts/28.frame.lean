abbrev wL25 (cI cS : ClassId) (h sa p0 aa ab q0 q1 q2 q3 b0 b1 b2 b3 p1 p2 p3 p4 : Nat) (so sc : Nat → Nat) (sf : Nat → Option Nat) (old rd tr lf : Int32) (ask shw : Nat → Int32) (an pn gr : Int32) (kd pl wt : Nat → Int32) (ban bpn bgr : Int32) (bkd bpl bwt al wo fi ni : Nat → Int32) (pa : Int32) (la le : Nat → Int32) (ce : Nat → Nat → Int32) : va_W := (wL17 cI cS h sa p0 aa ab q0 b0 q0 q1 q2 q3 b0 b1 b2 b3 p1 p2 p3 p4 sf old rd tr lf ask shw an pn gr kd pl wt ban bpn bgr bkd bpl bwt al wo fi ni pa) ++ [(so 0, .inr (2, [.ref (sc 0), .int (la 0), .int (le 0)])), (sc 0, .inl (cI, 60, .inl (ce 0))), (so 1, .inr (2, [.ref (sc 1), .int (la 1), .int (le 1)])), (sc 1, .inl (cI, 60, .inl (ce 1))), (so 2, .inr (2, [.ref (sc 2), .int (la 2), .int (le 2)])), (sc 2, .inl (cI, 60, .inl (ce 2))), (so 3, .inr (2, [.ref (sc 3), .int (la 3), .int (le 3)])), (sc 3, .inl (cI, 60, .inl (ce 3)))]
/-- answers: how many, their kinds and places, in both -/
def rA (N : Nat) (an : Int32) (kd pl mkd mpl : Nat → Int32) : Prop := an = nI N ∧ N ≤ 6 ∧ ∀ j, j < N → mkd j = kd j ∧ mpl j = pl j ∧ (∃ a, a ≤ 2 ∧ kd j = nI a) ∧ ∃ b, b ≤ 9 ∧ pl j = nI b
def rP (Pn : Nat) (pn : Int32) (wt mwt : Nat → Int32) : Prop := pn = nI Pn ∧ Pn ≤ 5 ∧ ∀ j, j < Pn → mwt j = wt j
def rR (N Rn : Nat) (rd : Int32) (ask shw mask mshw : Nat → Int32) : Prop := rd = nI Rn ∧ Rn ≤ 8 ∧ ∀ j, j < Rn → mask j = ask j ∧ mshw j = shw j ∧ ∃ a, a < N ∧ ask j = nI a
/-- a sheet in both: its lane, its length, its cells -/
def rS1 (j : Nat) (la le : Int32) (ce : Nat → Int32) (so sl ces : Nat → Int32) : Prop := (∃ L, L ≤ 60 ∧ sl j = nI L) ∧ ((la = -1 ∧ so j = -9 ∧ le = 0) ∨ (∃ a L, a ≤ 2 ∧ L ≤ 60 ∧ la = nI a ∧ so j = nI a ∧ le = nI L ∧ sl j = nI L ∧ ∀ i, i < L → ces (60 * j + i) = ce i))
def rS (la le : Nat → Int32) (ce : Nat → Nat → Int32) (so sl ces : Nat → Int32) : Prop := ∀ j, j < 4 → rS1 j (la j) (le j) (ce j) so sl ces
/-- the plan, where it isn't old: made of these answers, out of rows whose first cells were 0 -/
def rPl (N : Nat) (an : Int32) (kd pl : Nat → Int32) (old : Int32) (al wo fi ni : Nat → Int32) (pa : Int32) : Prop := wo 0 = 0 ∧ ni 0 = 0 ∧ (old = 1 ∨ (old = 0 ∧ ∃ al0 wo0 fi0 ni0 : Nat → Int32, wo0 0 = 0 ∧ ni0 0 = 0 ∧ (al, wo, fi, ni, pa) = fX0_make al0 wo0 fi0 ni0 an kd pl N (2 ^ N - 1)))
/-- the class's world, and what of the reference it goes with -/
def CW (cI cS : ClassId) (h : Nat) (W : va_W) (lf tr an pn gr rd : Int32) (mso msl ces mkd mpl mwt mask mshw : Nat → Int32) (N Pn Rn : Nat) : Prop := ∃ (sa p0 aa ab q0 q1 q2 q3 b0 b1 b2 b3 p1 p2 p3 p4 : Nat) (so sc : Nat → Nat) (sf : Nat → Option Nat) (old : Int32) (ask shw kd pl wt : Nat → Int32) (ban bpn bgr : Int32) (bkd bpl bwt al wo fi ni : Nat → Int32) (pa : Int32) (la le : Nat → Int32) (ce : Nat → Nat → Int32), W = wL25 cI cS h sa p0 aa ab q0 q1 q2 q3 b0 b1 b2 b3 p1 p2 p3 p4 so sc sf old rd tr lf ask shw an pn gr kd pl wt ban bpn bgr bkd bpl bwt al wo fi ni pa la le ce ∧ (∀ j, j < 4 → sf j = some (so j)) ∧ rA N an kd pl mkd mpl ∧ rP Pn pn wt mwt ∧ rR N Rn rd ask shw mask mshw ∧ rS la le ce mso msl ces ∧ rPl N an kd pl old al wo fi ni pa
theorem Met.cons {l : Launch} {y : MethodName} {ws : List Cond} {rm : Room} {Pc Pc' : Array Value → State → Prop} {Qc Qc' : Array Value → State → Outcome → State → Prop} {mc ms : Nat} {free free' : Addr → Prop} (hM : Met l y ws rm Pc Qc mc ms free) (h1 : ∀ a s, Pc' a s → Pc a s) (h2 : ∀ a s o t, Pc' a s → Qc a s o t → Qc' a s o t) (h3 : ∀ q, free q → free' q) : Met l y ws rm Pc' Qc' mc ms free' := by
  intro p e ha hc hk s m args below hf hs hp hK
  obtain ⟨n, o, g1, g2, g3, g4, L, g5, g6⟩ := hM p e ha hc hk s m args below hf hs (h1 _ _ hp) hK
  exact ⟨n, o, g1, g2, g3, h2 _ _ _ _ hp g4, L, g5, fun q hq => h3 _ (g6 q hq)⟩
abbrev kQW (D : va_G) : va_W → State → Prop := fun W t => va_P D vwCl W t.heap
/-- what the law sees of a call of the class: the reference's answer, and a world that goes with the reference's -/
abbrev LMi (l : Launch) (y : MethodName) (ws : List Cond) (rm : Room) (D : va_G) (cI cS : ClassId) (W : va_W) (av : List Value) (R : Int32) (C : va_W → Prop) : Prop := Met l y ws rm (va_Pc av (kBD D cI cS W)) (va_Qi (fun x (W' : va_W) => x = R ∧ C W' ∧ (W'.map Prod.fst).Perm (W.map Prod.fst)) (kQW D) (kA W)) 0 0 (kA W)
abbrev LMl (l : Launch) (y : MethodName) (ws : List Cond) (rm : Room) (D : va_G) (cI cS : ClassId) (W : va_W) (av : List Value) (R : Int64) (C : va_W → Prop) : Prop := Met l y ws rm (va_Pc av (kBD D cI cS W)) (va_Ql (fun x (W' : va_W) => x = R ∧ C W' ∧ (W'.map Prod.fst).Perm (W.map Prod.fst)) (kQW D) (kA W)) 0 0 (kA W)
theorem kSet_fst {W wc w1 : va_W} (is : List Nat) (hC : is.map (fun i => W[i]?) = wc.map some) (hf : w1.map Prod.fst = wc.map Prod.fst) : (kSet W is w1).map Prod.fst = W.map Prod.fst := by
  have hgen : ∀ (is : List Nat) (W wc w1 : va_W), is.map (fun i => (W.map Prod.fst)[i]?) = (wc.map Prod.fst).map some → w1.map Prod.fst = wc.map Prod.fst → (kSet W is w1).map Prod.fst = W.map Prod.fst := by
    intro is
    induction is with
    | nil => intro W wc w1 _ _; simp [kSet]
    | cons i is ih =>
      intro W wc w1 h1 h2
      cases wc with
      | nil => cases h1
      | cons c wc =>
        cases w1 with
        | nil => cases h2
        | cons q w1 =>
          simp only [List.map_cons, List.cons.injEq] at h1 h2
          have e : (W.set i q).map Prod.fst = W.map Prod.fst := by
            apply List.ext_getElem?
            intro k
            rw [List.map_set, List.getElem?_set]
            split
            · rename_i hik
              subst hik
              split
              · rw [h1.1, h2.1]
              · rename_i hl
                rw [List.getElem?_eq_none (by omega)]
            · rfl
          show (kSet (W.set i q) is w1).map Prod.fst = _
          rw [ih (W.set i q) wc w1 (by rw [e]; exact h1.2) h2.2, e]
  refine hgen is W wc w1 ?_ hf
  have h3 := congrArg (List.map (Option.map Prod.fst)) hC
  simpa [List.map_map, Function.comp_def] using h3
theorem kA_sub {W wc : va_W} (is : List Nat) (hC : is.map (fun i => W[i]?) = wc.map some) {q : Nat} (h : kA wc q) : kA W q := by
  obtain ⟨c, hc, he⟩ := List.mem_map.mp h
  obtain ⟨k, hk⟩ := List.getElem?_of_mem hc
  have h1 : (is.map (fun i => W[i]?))[k]? = some (some c) := by rw [hC, List.getElem?_map, hk]; rfl
  rw [List.getElem?_map] at h1
  cases hi : is[k]? with
  | none => rw [hi] at h1; cases h1
  | some i =>
    rw [hi] at h1
    exact List.mem_map.mpr ⟨c, List.mem_of_getElem? (Option.some.inj h1), he⟩
theorem LMi.of {l : Launch} {y : MethodName} {ws : List Cond} {rm : Room} {D : va_G} {cI cS : ClassId} {W wc w1 : va_W} {av : List Value} {r R : Int32} {C : va_W → Prop} (hM : MMi l y ws rm D cI cS wc av r w1) (is : List Nat) (hn : va_nd is = true) (hC : is.map (fun i => W[i]?) = wc.map some) (hf : w1.map Prod.fst = wc.map Prod.fst) (hr : r = R) (hW : C (kSet W is w1)) : LMi l y ws rm D cI cS W av R C := by
  refine Met.cons hM (fun a s h => ⟨h.1, ⟨h.2.1.1, kPick h.2.1.2 is hC⟩, h.2.2.sub is hn hC⟩) (fun a s o t hp hq => ?_) (fun q hq => kA_sub is hC hq)
  obtain ⟨⟨x, u, ho, hx, hb⟩, hz, hk⟩ := hq
  exact ⟨⟨x, kSet W is w1, ho, ⟨hx.trans hr, hW, .of_eq (kSet_fst is hC hf)⟩, (kJoin hp.2.1.2 hp.2.2.kA is hC hf hk hb).1⟩, hz, fun q h1 h2 => hk q h1 (fun h => h2 (kA_sub is hC h))⟩
theorem LMl.of {l : Launch} {y : MethodName} {ws : List Cond} {rm : Room} {D : va_G} {cI cS : ClassId} {W wc w1 : va_W} {av : List Value} {r R : Int64} {C : va_W → Prop} (hM : MMl l y ws rm D cI cS wc av r w1) (is : List Nat) (hn : va_nd is = true) (hC : is.map (fun i => W[i]?) = wc.map some) (hf : w1.map Prod.fst = wc.map Prod.fst) (hr : r = R) (hW : C (kSet W is w1)) : LMl l y ws rm D cI cS W av R C := by
  refine Met.cons hM (fun a s h => ⟨h.1, ⟨h.2.1.1, kPick h.2.1.2 is hC⟩, h.2.2.sub is hn hC⟩) (fun a s o t hp hq => ?_) (fun q hq => kA_sub is hC hq)
  obtain ⟨⟨x, u, ho, hx, hb⟩, hz, hk⟩ := hq
  exact ⟨⟨x, kSet W is w1, ho, ⟨hx.trans hr, hW, .of_eq (kSet_fst is hC hf)⟩, (kJoin hp.2.1.2 hp.2.2.kA is hC hf hk hb).1⟩, hz, fun q h1 h2 => hk q h1 (fun h => h2 (kA_sub is hC h))⟩
theorem va_P.perm {D : va_G} {cl : List vw_C} {ws ws' : va_W} {H : Heap} (hP : va_P D cl ws H) (hp : ws'.Perm ws) : va_P D cl ws' H := fun k q hq => by
  obtain ⟨k', hk'⟩ := List.getElem?_of_mem (hp.mem_iff.mp (List.mem_of_getElem? hq))
  exact hP k' q hk'
theorem LMi.ofP {l : Launch} {y : MethodName} {ws : List Cond} {rm : Room} {D : va_G} {cI cS : ClassId} {W wc w1 W2 : va_W} {av : List Value} {r R : Int32} {C : va_W → Prop} (hM : MMi l y ws rm D cI cS wc av r w1) (is : List Nat) (hn : va_nd is = true) (hC : is.map (fun i => W[i]?) = wc.map some) (hf : w1.map Prod.fst = wc.map Prod.fst) (hr : r = R) (hp : W2.Perm (kSet W is w1)) (hW : C W2) : LMi l y ws rm D cI cS W av R C := by
  refine Met.cons hM (fun a s h => ⟨h.1, ⟨h.2.1.1, kPick h.2.1.2 is hC⟩, h.2.2.sub is hn hC⟩) (fun a s o t hp hq => ?_) (fun q hq => kA_sub is hC hq)
  obtain ⟨⟨x, u, ho, hx, hb⟩, hz, hk⟩ := hq
  exact ⟨⟨x, W2, ho, ⟨hx.trans hr, hW, (‹W2.Perm (kSet W is w1)›.map _).trans (.of_eq (kSet_fst is hC hf))⟩, (kJoin hp.2.1.2 hp.2.2.kA is hC hf hk hb).1.perm ‹W2.Perm (kSet W is w1)›⟩, hz, fun q h1 h2 => hk q h1 (fun h => h2 (kA_sub is hC h))⟩
theorem va_D.perm {A : Nat → Prop} {ws ws' : va_W} (h : va_D A ws) (hp : (ws'.map Prod.fst).Perm (ws.map Prod.fst)) : va_D A ws' := by
  have hn : (ws.map Prod.fst).Nodup := by
    rw [List.Nodup, List.pairwise_iff_getElem]
    intro i j hi hj hij e
    rw [List.length_map] at hi hj
    rw [List.getElem_map, List.getElem_map] at e
    have := h.1 i j _ _ (List.getElem?_eq_getElem hi) (List.getElem?_eq_getElem hj) e
    omega
  have hn' := hp.nodup_iff.mpr hn
  rw [List.Nodup, List.pairwise_iff_getElem] at hn'
  refine ⟨fun i j p q h1 h2 e => ?_, fun k q hq => ?_⟩
  · obtain ⟨hi, e1⟩ := List.getElem?_eq_some_iff.mp h1
    obtain ⟨hj, e2⟩ := List.getElem?_eq_some_iff.mp h2
    have key : ∀ a b (ha : a < ws'.length) (hb : b < ws'.length), a < b → ws'[a].1 ≠ ws'[b].1 := fun a b ha hb hab h => by
      refine hn' a b (by rw [List.length_map]; exact ha) (by rw [List.length_map]; exact hb) hab ?_
      rw [List.getElem_map, List.getElem_map]; exact h
    rcases Nat.lt_trichotomy i j with c | c | c
    · exact absurd (by rw [e1, e2]; exact e) (key i j hi hj c)
    · exact c
    · exact absurd (by rw [e1, e2]; exact e.symm) (key j i hj hi c)
  · have hm : q.1 ∈ ws.map Prod.fst := hp.mem_iff.mp (List.mem_map.mpr ⟨q, List.mem_of_getElem? hq, rfl⟩)
    obtain ⟨q2, hq2, e⟩ := List.mem_map.mp hm
    obtain ⟨k2, hk2⟩ := List.getElem?_of_mem hq2
    rw [← e]; exact h.2 k2 q2 hk2
/-- a call that writes nothing -/
theorem LMi.pure {l : Launch} {y : MethodName} {ws : List Cond} {rm : Room} {D : va_G} {cI cS : ClassId} {W wc : va_W} {av : List Value} {r R : Int32} {C : va_W → Prop} (hM : PMi l y ws rm D cI cS wc av r) (is : List Nat) (hC : is.map (fun i => W[i]?) = wc.map some) (hr : r = R) (hW : C W) : LMi l y ws rm D cI cS W av R C := by
  refine Met.cons hM (fun a s h => ⟨h.1, h.2.1.1, kPick h.2.1.2 is hC⟩) (fun a s o t hp hq => ?_) (fun q hq => hq.elim)
  obtain ⟨x, ho, hx, hh⟩ := hq
  exact ⟨⟨x, W, ho, ⟨hx.trans hr, hW, .refl _⟩, by show va_P D vwCl W t.heap; rw [hh]; exact hp.2.1.2⟩, by rw [hh]; exact Nat.le_refl _, fun q _ _ => by rw [hh]⟩
/-- the reference's calls, alike: its answer, its world -/
abbrev RMi (l : Launch) (y : MethodName) (ws : List Cond) (rm : Room) (D : va_G) (cI cS : ClassId) (V : va_W) (av : List Value) (R : Int32) (V1 : va_W) : Prop := MMi l y ws rm D cI cS V av R V1
theorem RMi.pure {l : Launch} {y : MethodName} {ws : List Cond} {rm : Room} {D : va_G} {cI cS : ClassId} {V : va_W} {av : List Value} {R : Int32} (hM : PMi l y ws rm D cI cS V av R) : MMi l y ws rm D cI cS V av R V := by
  refine Met.cons hM (fun a s h => ⟨h.1, h.2.1⟩) (fun a s o t hp hq => ?_) (fun q hq => hq.elim)
  obtain ⟨x, ho, hx, hh⟩ := hq
  exact ⟨⟨x, (), ho, hx, by show va_P D vwCl V t.heap; rw [hh]; exact hp.2.1.2⟩, by rw [hh]; exact Nat.le_refl _, fun q _ _ => by rw [hh]⟩
section KLAW
variable {p : Program} {l : Launch} {e : Env} {R : Room} {s : State} {m : MethodId} {args : Array Value} {below : List Frame} {meth : Method} {c : Code} {H : Heap} {locs : List Loc} {cells slots : Nat} {Q : State → Prop}
variable {pc : Nat} {ls : Array Slot} {rest st0 : List Value} {a : Array Value} {A0 : Nat → Prop} {H0 : Heap} {D : va_G}
theorem kD_left {A : Nat → Prop} {Xw V : va_W} (h : va_D A (Xw ++ V)) : va_D A Xw := ⟨fun i j p q hp hq he => h.1 i j p q (by rw [List.getElem?_append_left (List.getElem?_eq_some_iff.mp hp).1]; exact hp) (by rw [List.getElem?_append_left (List.getElem?_eq_some_iff.mp hq).1]; exact hq) he, fun k q hq => h.2 k q (by rw [List.getElem?_append_left (List.getElem?_eq_some_iff.mp hq).1]; exact hq)⟩
theorem kD_right {A : Nat → Prop} {Xw V : va_W} (h : va_D A (Xw ++ V)) : va_D A V := by
  have hg : ∀ (k : Nat) (q : Nat × va_E), V[k]? = some q → (Xw ++ V)[Xw.length + k]? = some q := fun k q hq => by rw [List.getElem?_append_right (by omega), Nat.add_sub_cancel_left]; exact hq
  exact ⟨fun i j p q hp hq he => by have := h.1 _ _ p q (hg i p hp) (hg j q hq) he; omega, fun k q hq => h.2 _ q (hg k q hq)⟩
theorem kD_apart {A : Nat → Prop} {Xw V : va_W} (h : va_D A (Xw ++ V)) {q : Nat} (h1 : kA Xw q) (h2 : kA V q) : False := by
  obtain ⟨x, hx, ex⟩ := List.mem_map.mp h1
  obtain ⟨y, hy, ey⟩ := List.mem_map.mp h2
  obtain ⟨i, hi⟩ := List.getElem?_of_mem hx
  obtain ⟨j, hj⟩ := List.getElem?_of_mem hy
  have hl := (List.getElem?_eq_some_iff.mp hi).1
  have := h.1 i (Xw.length + j) x y (by rw [List.getElem?_append_left hl]; exact hi) (by rw [List.getElem?_append_right (by omega), Nat.add_sub_cancel_left]; exact hj) (ex.trans ey.symm)
  omega
theorem kD_mem {A : Nat → Prop} {Xw : va_W} (h : va_D A Xw) {q : Nat} (hq : kA Xw q) : A q := by
  obtain ⟨x, hx, ex⟩ := List.mem_map.mp hq
  obtain ⟨i, hi⟩ := List.getElem?_of_mem hx
  rw [← ex]; exact h.2 i x hi
theorem kKeep {Xw V : va_W} {H1 : Heap} (hD : va_D A0 (Xw ++ V)) (hV : va_P D vwCl V H) (hk : ∀ q : Nat, q < H.size → ¬ kA Xw q → H1[q]? = H[q]?) : va_P D vwCl V H1 := fun k q hq => (hV k q hq).kept (hk q.1 (hV k q hq).lt (fun h => kD_apart hD h (List.mem_map.mpr ⟨q, List.mem_of_getElem? hq, rfl⟩)))
theorem kKeepR {Xw V : va_W} {H1 : Heap} (hD : va_D A0 (Xw ++ V)) (hW : va_P D vwCl Xw H) (hk : ∀ q : Nat, q < H.size → ¬ kA V q → H1[q]? = H[q]?) : va_P D vwCl Xw H1 := fun k q hq => (hW k q hq).kept (hk q.1 (hW k q hq).lt (fun h => kD_apart hD (List.mem_map.mpr ⟨q, List.mem_of_getElem? hq, rfl⟩) h))
/-- the law calls the class -/
theorem kLi {Xw V : va_W} {r : Int32} {C : va_W → Prop} (hW : va_P D vwCl Xw H) (hV : va_P D vwCl V H) (hD : va_D A0 (Xw ++ V)) (hS : va_S A0 H0 H locs)
    (hr : va_Run p l e R s m args below meth c H locs cells slots 0 0 (F0 m pc ls st0) rest (va_Qi (fun x (W' : va_W) => x = r ∧ C W' ∧ (W'.map Prod.fst).Perm (Xw.map Prod.fst)) (kQW D) (kA Xw) a) (kA Xw))
    (kk : ∀ (W' : va_W) (H1 : Heap) (locs1 : List Loc), C W' → va_P D vwCl W' H1 → va_P D vwCl V H1 → va_D A0 (W' ++ V) → va_S A0 H0 H1 locs1 → (Xw.map Prod.fst).Perm (W'.map Prod.fst) → W p l e R s m args below meth c H1 locs1 cells slots Q (F0 m (pc + 3) ls (.int r :: rest))) : W p l e R s m args below meth c H locs cells slots Q (F0 m pc ls st0) := by
  refine va_calli hr hS (fun q _ h => kD_mem (kD_left hD) h) (fun q h => kD_mem (kD_left hD) h) (fun r' W' t H1 locs1 ht hvm hw hB hz hk1 hS1 => ?_)
  obtain ⟨rfl, hC, hf⟩ := hw
  subst ht
  exact kk W' _ _ hC hB (kKeep hD hV hk1) (hD.perm (by rw [List.map_append, List.map_append]; exact hf.append_right _)) hS1 hf.symm
theorem kLl {Xw V : va_W} {r : Int64} {C : va_W → Prop} (hW : va_P D vwCl Xw H) (hV : va_P D vwCl V H) (hD : va_D A0 (Xw ++ V)) (hS : va_S A0 H0 H locs)
    (hr : va_Run p l e R s m args below meth c H locs cells slots 0 0 (F0 m pc ls st0) rest (va_Ql (fun x (W' : va_W) => x = r ∧ C W' ∧ (W'.map Prod.fst).Perm (Xw.map Prod.fst)) (kQW D) (kA Xw) a) (kA Xw))
    (kk : ∀ (W' : va_W) (H1 : Heap) (locs1 : List Loc), C W' → va_P D vwCl W' H1 → va_P D vwCl V H1 → va_D A0 (W' ++ V) → va_S A0 H0 H1 locs1 → (Xw.map Prod.fst).Perm (W'.map Prod.fst) → W p l e R s m args below meth c H1 locs1 cells slots Q (F0 m (pc + 3) ls (.long r :: rest))) : W p l e R s m args below meth c H locs cells slots Q (F0 m pc ls st0) := by
  refine va_calll hr hS (fun q _ h => kD_mem (kD_left hD) h) (fun q h => kD_mem (kD_left hD) h) (fun r' W' t H1 locs1 ht hvm hw hB hz hk1 hS1 => ?_)
  obtain ⟨rfl, hC, hf⟩ := hw
  subst ht
  exact kk W' _ _ hC hB (kKeep hD hV hk1) (hD.perm (by rw [List.map_append, List.map_append]; exact hf.append_right _)) hS1 hf.symm
/-- the law calls the reference -/
theorem kRi {Xw V V1 : va_W} {r : Int32} (hW : va_P D vwCl Xw H) (hV : va_P D vwCl V H) (hD : va_D A0 (Xw ++ V)) (hS : va_S A0 H0 H locs) (hf : V1.map Prod.fst = V.map Prod.fst)
    (hr : va_Run p l e R s m args below meth c H locs cells slots 0 0 (F0 m pc ls st0) rest (va_Qi (fun x (_ : Unit) => x = r) (kQw D V1) (kA V) a) (kA V))
    (kk : ∀ (H1 : Heap) (locs1 : List Loc), va_P D vwCl Xw H1 → va_P D vwCl V1 H1 → va_D A0 (Xw ++ V1) → va_S A0 H0 H1 locs1 → W p l e R s m args below meth c H1 locs1 cells slots Q (F0 m (pc + 3) ls (.int r :: rest))) : W p l e R s m args below meth c H locs cells slots Q (F0 m pc ls st0) := by
  refine va_calli hr hS (fun q _ h => kD_mem (kD_right hD) h) (fun q h => kD_mem (kD_right hD) h) (fun r' u t H1 locs1 ht hvm hw hB hz hk1 hS1 => ?_)
  subst hw; subst ht
  exact kk _ _ (kKeepR hD hW hk1) hB (hD.same (by rw [List.map_append, List.map_append, hf])) hS1
theorem kRl {Xw V V1 : va_W} {r : Int64} (hW : va_P D vwCl Xw H) (hV : va_P D vwCl V H) (hD : va_D A0 (Xw ++ V)) (hS : va_S A0 H0 H locs) (hf : V1.map Prod.fst = V.map Prod.fst)
    (hr : va_Run p l e R s m args below meth c H locs cells slots 0 0 (F0 m pc ls st0) rest (va_Ql (fun x (_ : Unit) => x = r) (kQw D V1) (kA V) a) (kA V))
    (kk : ∀ (H1 : Heap) (locs1 : List Loc), va_P D vwCl Xw H1 → va_P D vwCl V1 H1 → va_D A0 (Xw ++ V1) → va_S A0 H0 H1 locs1 → W p l e R s m args below meth c H1 locs1 cells slots Q (F0 m (pc + 3) ls (.long r :: rest))) : W p l e R s m args below meth c H locs cells slots Q (F0 m pc ls st0) := by
  refine va_calll hr hS (fun q _ h => kD_mem (kD_right hD) h) (fun q h => kD_mem (kD_right hD) h) (fun r' u t H1 locs1 ht hvm hw hB hz hk1 hS1 => ?_)
  subst hw; subst ht
  exact kk _ _ (kKeepR hD hW hk1) hB (hD.same (by rw [List.map_append, List.map_append, hf])) hS1
end KLAW
