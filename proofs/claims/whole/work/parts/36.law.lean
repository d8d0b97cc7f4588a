/-! THE CLAIM OUT OF ONE WALK OF THE LAW'S BODY. Your part is whole_start (and what it stands on); all else here is the same for every law, but numbers. -/
def R_law : String := "LieNightsLaw"
def lw_P (b : Addr) (xs : List Int32) (args : Array Value) (s : State) : Prop := args = #[.ref b] ∧ s.IntsAt b xs ∧ xs.length ≤ 448 ∧ (Jvm.Cond.and given_1 narrow_1).before args s = true
def lw_Q (_ : Array Value) (s : State) (o : Outcome) (t : State) : Prop := o = .returned (some (.int 1)) ∧ Framed s o t [] 600000 7302250
def lw_Z (below : List Frame) (a : Array Value) (s : State) : State → Prop := fun t => ∃ o, t.status = .running ∧ Ended t below o ∧ lw_Q a s o t
/-- the law's own end, with 1 on the stack, nothing written that was there before, its room as the claim has it -/
theorem lw_ret {p : Program} {l : Launch} {e : Env} {s : State} {m : MethodId} {below : List Frame} {meth : Method} {c : Code} {b : Nat} (hx : p.tables.exec = Jvm.exec) (hb : c.code = code) (hr : meth.sig.returnType = ret) (hlocks : meth.locks = false) {pc : Nat} {H : Heap} {ls : Array Slot} (hdg : decode code pc = .ok (.ireturn, 1)) : W p l e room_1 s m #[Value.ref b] below meth c H [] 600000 7302250 (lw_Z below #[Value.ref b] s) (F0 m pc ls [.int 1]) := by
  intro T hT X
  obtain ⟨fs, hret, hrun, hended, hW, hframe⟩ := X.leave (v := some (.int 1)) (hlocks := hlocks) (fun h => by rw [hr] at h; cases h)
  have hmeth' : T.vm.method? m = some meth := X.method'
  refine ⟨T.setFrames fs, ?_, .returned (some (.int 1)), hrun, hended, rfl, ⟨_, rfl⟩, hW, hframe⟩
  jvm_step X.here [X.here.top, hx, hb, hdg, hmeth', hr, ret, narrow_b1]
  (try refine ⟨rfl, ?_⟩); (try refine ⟨rfl, ?_⟩)
  first | (intro acts; rw [hret _ acts rfl rfl rfl]) | rw [hret _ _ rfl rfl rfl]
  exact Steps.refl _
/-- what holds at the law's entry: the machine, the code, the tables' words (any of lw_tbl by 'hts w (by decide +kernel)'), the script of L ints xs at the cell b, what the Statement gives of the start (any of its parts by flat_of_before) -/
def lw_At (p : Program) (s : State) (m : MethodId) (meth : Method) (c : Code) (b L : Nat) (xs : Nat → Int32) : Prop :=
  p.tables.exec = Jvm.exec ∧ c.code = code ∧ meth.sig.returnType = ret ∧ c.maxLocals = 4 ∧ s.vm.findClass R_law = some m.cls ∧ (∀ w ∈ lw_tbl, w.before #[Value.ref b] s = true) ∧ va_X b L xs s s.heap ∧ b < s.heap.size ∧ meth.locks = false ∧ (Jvm.Cond.and given_1 narrow_1).before #[Value.ref b] s = true
set_option maxHeartbeats 40000000 in
set_option maxRecDepth 100000 in
/-- THE LAW'S LOOP: at its head, j ints read, class and reference go together -/
theorem law_loop {p : Program} {l : Launch} {e : Env} {s : State} {m : MethodId} {below : List Frame} {meth : Method} {c : Code} {D : va_G} {cI cS : ClassId} {b L : Nat} {xs : Nat → Int32} (hL : L ≤ 448) (C0 : lw_At p s m meth c b L xs) (hK : kK D cI cS s) :
    ∀ (n j : Nat), j ≤ L → L + 1 ≤ j + n → ∀ (h1 hm m1 m2 m3 m4 m5 m6 m7 m8 m9 m10 m11 m12 m13 : Nat) (Xw : va_W) (lf tr an pn gr ax ra rp rg rd : Int32) (so sl ces kd pl wt xk xp xw wo su ask shw : Nat → Int32) (N Pn Rn : Nat), CW cI cS h1 Xw lf tr an pn gr rd so sl ces kd pl wt ask shw N Pn Rn → ∀ (H : Heap) (locs : List Loc), va_P D vwCl Xw H → va_P D vwCl (wMo cI hm m1 m2 m3 m4 m5 m6 m7 m8 m9 m10 m11 m12 m13 lf tr an pn gr ax ra rp rg rd so sl ces kd pl wt xk xp xw wo su ask shw) H → va_D (fun q : Nat => s.heap.size ≤ q) (Xw ++ wMo cI hm m1 m2 m3 m4 m5 m6 m7 m8 m9 m10 m11 m12 m13 lf tr an pn gr ax ra rp rg rd so sl ces kd pl wt xk xp xw wo su ask shw) → va_S (fun q : Nat => s.heap.size ≤ q) s.heap H locs → ∀ (ls : Array Slot), lv_has ls 4 [(0, .ref b), (1, .ref h1), (2, .ref hm), (3, .int (nI j))] → W p l e room_1 s m #[Value.ref b] below meth c H locs 600000 7302250 (lw_Z below #[Value.ref b] s) (F0 m 18 ls []) := by
  obtain ⟨hx, hb, hr, hml, hown, hts0, hX, hbl, hlocks, hgv⟩ := C0
  have hts : ∀ w ∈ wsL_law, w.before #[Value.ref b] s = true := fun w h => hts0 w (wsL_law_in w h)
  have hown : s.vm.findClass RL = some m.cls := hown
  have hbA : ¬ (fun q : Nat => s.heap.size ≤ q) b := Nat.not_le.mpr hbl
  intro n
  induction n with
  | zero => intro j h1 h2; exact absurd h2 (by omega)
  | succ n ih =>
    intro j hj hn h1 hm m1 m2 m3 m4 m5 m6 m7 m8 m9 m10 m11 m12 m13 Xw lf tr an pn gr ax ra rp rg rd so sl ces kd pl wt xk xp xw wo su ask shw N Pn Rn hC H locs hPW hPV hD hS ls hl
    have ih0 := ih
    refine lv_iload_n hx hb dL_law_18 rfl (lv_at hl 3 rfl) ?_
    refine lv_aload_n hx hb dL_law_19 rfl (lv_at hl 0 rfl) ?_
    refine va_slen hx hb hX hbl hbA hS dL_law_20 ?_
    refine lv_bipush (v := 7) hx hb dL_law_21 (by decide) ?_
    refine lv_isub hx hb dL_law_23 ?_
    refine lv_icmp_gt (tgt := 1072) hx hb dL_law_24 (by decide) (fun c24 => ?_) (fun c24 => ?_)
    · skip
      refine lv_iconst (v := 1) hx hb dL_law_1072 (by decide) ?_
      refine va_forget (fun q hq => hS.2.2 q hq) ?_
      exact lw_ret hx hb hr hlocks dL_law_1073
    have hj7 : j + 7 ≤ L := lwTest (by omega) (by omega) c24
    refine lv_aload_n hx hb dL_law_27 rfl (lv_at hl 0 rfl) ?_
    refine lv_iload_n hx hb dL_law_28 rfl (lv_at hl 3 rfl) ?_
    refine va_sld hx hb hX hbl hbA hS (vp_in_nI (by omega) (by omega)) dL_law_29 ?_
    refine lv_bipush (v := 31) hx hb dL_law_30 (by decide) ?_
    refine lv_iand hx hb dL_law_32 ?_
    generalize (xs (nI j).toNatClampNeg &&& 31) = z9
    by_cases c33_0 : z9 = 0
    · skip
      refine lv_tableIn (tgt := 164) (off := 131) hx hb dL_law_33 (by rw [c33_0]; decide) (by rw [c33_0]; decide) (by rw [c33_0]; decide) (by decide) ?_
      refine lv_aload_n hx hb dL_law_164 rfl (lv_at hl 1 rfl) ?_
      refine lv_aload_n hx hb dL_law_165 rfl (lv_at hl 0 rfl) ?_
      refine lv_iload_n hx hb dL_law_166 rfl (lv_at hl 3 rfl) ?_
      refine lv_iconst (v := 1) hx hb dL_law_167 (by decide) ?_
      refine lv_iadd hx hb dL_law_168 ?_
      refine va_sld hx hb hX hbl hbA hS (lwIn 1 hj7 (by omega)) dL_law_169 ?_
      refine lv_aload_n hx hb dL_law_170 rfl (lv_at hl 0 rfl) ?_
      refine lv_iload_n hx hb dL_law_171 rfl (lv_at hl 3 rfl) ?_
      refine lv_iconst (v := 2) hx hb dL_law_172 (by decide) ?_
      refine lv_iadd hx hb dL_law_173 ?_
      refine va_sld hx hb hX hbl hbA hS (lwIn 2 hj7 (by omega)) dL_law_174 ?_
      refine lv_aload_n hx hb dL_law_175 rfl (lv_at hl 0 rfl) ?_
      refine lv_iload_n hx hb dL_law_176 rfl (lv_at hl 3 rfl) ?_
      refine lv_iconst (v := 3) hx hb dL_law_177 (by decide) ?_
      refine lv_iadd hx hb dL_law_178 ?_
      refine va_sld hx hb hX hbl hbA hS (lwIn 3 hj7 (by omega)) dL_law_179 ?_
      refine lv_aload_n hx hb dL_law_180 rfl (lv_at hl 0 rfl) ?_
      refine lv_iload_n hx hb dL_law_181 rfl (lv_at hl 3 rfl) ?_
      refine lv_iconst (v := 4) hx hb dL_law_182 (by decide) ?_
      refine lv_iadd hx hb dL_law_183 ?_
      refine va_sld hx hb hX hbl hbA hS (lwIn 4 hj7 (by omega)) dL_law_184 ?_
      refine kLi hPW hPV hD hS (va_runV (As := [.int (xs ((nI j) + 1).toNatClampNeg), .int (xs ((nI j) + 2).toNatClampNeg), .int (xs ((nI j) + 3).toNatClampNeg), .int (xs ((nI j) + 4).toNatClampNeg)]) (rest := []) ⟨hx, hb, hml, hown, hts⟩ (L_secret l D cI cS hC (wo := wo) (su := su) (xk := xk) (xp := xp) (xw := xw) (ax := ax) (ra := ra) (rp := rp) (rg := rg) (xs ((nI j) + 1).toNatClampNeg) (xs ((nI j) + 2).toNatClampNeg) (xs ((nI j) + 3).toNatClampNeg) (xs ((nI j) + 4).toNatClampNeg)) (cwV 4 hts gL_law_X3_secret rfl rfl rfl q_X3_secret ⟨Nat.le_of_ble_eq_true rfl, Nat.le_of_ble_eq_true rfl⟩) ⟨kBD_blind, cw_recv hK hC hPW, kBD_of hK hPW (kD_left hD) (.ref h1 :: [.int (xs ((nI j) + 1).toNatClampNeg), .int (xs ((nI j) + 2).toNatClampNeg), .int (xs ((nI j) + 3).toNatClampNeg), .int (xs ((nI j) + 4).toNatClampNeg)])⟩ rfl rfl hl.1 rfl (lv_room (Nat.le_of_ble_eq_true rfl)) dL_law_185 ⟨Nat.le_refl _, Nat.le_refl _⟩) (fun Xv H locs hC2 hPW hPV hD hS hfst => ?_)
      refine lv_aload_n hx hb dL_law_188 rfl (lv_at hl 2 rfl) ?_
      refine lv_aload_n hx hb dL_law_189 rfl (lv_at hl 0 rfl) ?_
      refine lv_iload_n hx hb dL_law_190 rfl (lv_at hl 3 rfl) ?_
      refine lv_iconst (v := 1) hx hb dL_law_191 (by decide) ?_
      refine lv_iadd hx hb dL_law_192 ?_
      refine va_sld hx hb hX hbl hbA hS (lwIn 1 hj7 (by omega)) dL_law_193 ?_
      refine lv_aload_n hx hb dL_law_194 rfl (lv_at hl 0 rfl) ?_
      refine lv_iload_n hx hb dL_law_195 rfl (lv_at hl 3 rfl) ?_
      refine lv_iconst (v := 2) hx hb dL_law_196 (by decide) ?_
      refine lv_iadd hx hb dL_law_197 ?_
      refine va_sld hx hb hX hbl hbA hS (lwIn 2 hj7 (by omega)) dL_law_198 ?_
      refine lv_aload_n hx hb dL_law_199 rfl (lv_at hl 0 rfl) ?_
      refine lv_iload_n hx hb dL_law_200 rfl (lv_at hl 3 rfl) ?_
      refine lv_iconst (v := 3) hx hb dL_law_201 (by decide) ?_
      refine lv_iadd hx hb dL_law_202 ?_
      refine va_sld hx hb hX hbl hbA hS (lwIn 3 hj7 (by omega)) dL_law_203 ?_
      refine lv_aload_n hx hb dL_law_204 rfl (lv_at hl 0 rfl) ?_
      refine lv_iload_n hx hb dL_law_205 rfl (lv_at hl 3 rfl) ?_
      refine lv_iconst (v := 4) hx hb dL_law_206 (by decide) ?_
      refine lv_iadd hx hb dL_law_207 ?_
      refine va_sld hx hb hX hbl hbA hS (lwIn 4 hj7 (by omega)) dL_law_208 ?_
      refine kRi (V1 := (wMo cI hm m1 m2 m3 m4 m5 m6 m7 m8 m9 m10 m11 m12 m13 ((fX4_secret an pn gr ax ra rp rg rd so sl ces kd pl wt xk xp xw (Nat.min 6 (fX4_readSecret ((60 * (xs ((nI j) + 1).toNatClampNeg)) + (xs ((nI j) + 3).toNatClampNeg)) rg ces xk xp xw (((60 * (xs ((nI j) + 1).toNatClampNeg)) + (xs ((nI j) + 3).toNatClampNeg)) + (xs ((nI j) + 4).toNatClampNeg))).2.2.1.toNatClampNeg) (Nat.min 5 (fX4_readSecret ((60 * (xs ((nI j) + 1).toNatClampNeg)) + (xs ((nI j) + 3).toNatClampNeg)) rg ces xk xp xw (((60 * (xs ((nI j) + 1).toNatClampNeg)) + (xs ((nI j) + 3).toNatClampNeg)) + (xs ((nI j) + 4).toNatClampNeg))).2.2.2.1.toNatClampNeg) (xs ((nI j) + 1).toNatClampNeg) (xs ((nI j) + 2).toNatClampNeg) (xs ((nI j) + 3).toNatClampNeg) (xs ((nI j) + 4).toNatClampNeg)).2.1) tr ((fX4_secret an pn gr ax ra rp rg rd so sl ces kd pl wt xk xp xw (Nat.min 6 (fX4_readSecret ((60 * (xs ((nI j) + 1).toNatClampNeg)) + (xs ((nI j) + 3).toNatClampNeg)) rg ces xk xp xw (((60 * (xs ((nI j) + 1).toNatClampNeg)) + (xs ((nI j) + 3).toNatClampNeg)) + (xs ((nI j) + 4).toNatClampNeg))).2.2.1.toNatClampNeg) (Nat.min 5 (fX4_readSecret ((60 * (xs ((nI j) + 1).toNatClampNeg)) + (xs ((nI j) + 3).toNatClampNeg)) rg ces xk xp xw (((60 * (xs ((nI j) + 1).toNatClampNeg)) + (xs ((nI j) + 3).toNatClampNeg)) + (xs ((nI j) + 4).toNatClampNeg))).2.2.2.1.toNatClampNeg) (xs ((nI j) + 1).toNatClampNeg) (xs ((nI j) + 2).toNatClampNeg) (xs ((nI j) + 3).toNatClampNeg) (xs ((nI j) + 4).toNatClampNeg)).2.2.2.2.2.2.2.2.2.1) ((fX4_secret an pn gr ax ra rp rg rd so sl ces kd pl wt xk xp xw (Nat.min 6 (fX4_readSecret ((60 * (xs ((nI j) + 1).toNatClampNeg)) + (xs ((nI j) + 3).toNatClampNeg)) rg ces xk xp xw (((60 * (xs ((nI j) + 1).toNatClampNeg)) + (xs ((nI j) + 3).toNatClampNeg)) + (xs ((nI j) + 4).toNatClampNeg))).2.2.1.toNatClampNeg) (Nat.min 5 (fX4_readSecret ((60 * (xs ((nI j) + 1).toNatClampNeg)) + (xs ((nI j) + 3).toNatClampNeg)) rg ces xk xp xw (((60 * (xs ((nI j) + 1).toNatClampNeg)) + (xs ((nI j) + 3).toNatClampNeg)) + (xs ((nI j) + 4).toNatClampNeg))).2.2.2.1.toNatClampNeg) (xs ((nI j) + 1).toNatClampNeg) (xs ((nI j) + 2).toNatClampNeg) (xs ((nI j) + 3).toNatClampNeg) (xs ((nI j) + 4).toNatClampNeg)).2.2.2.2.2.2.2.2.2.2.2.2.2.1) ((fX4_secret an pn gr ax ra rp rg rd so sl ces kd pl wt xk xp xw (Nat.min 6 (fX4_readSecret ((60 * (xs ((nI j) + 1).toNatClampNeg)) + (xs ((nI j) + 3).toNatClampNeg)) rg ces xk xp xw (((60 * (xs ((nI j) + 1).toNatClampNeg)) + (xs ((nI j) + 3).toNatClampNeg)) + (xs ((nI j) + 4).toNatClampNeg))).2.2.1.toNatClampNeg) (Nat.min 5 (fX4_readSecret ((60 * (xs ((nI j) + 1).toNatClampNeg)) + (xs ((nI j) + 3).toNatClampNeg)) rg ces xk xp xw (((60 * (xs ((nI j) + 1).toNatClampNeg)) + (xs ((nI j) + 3).toNatClampNeg)) + (xs ((nI j) + 4).toNatClampNeg))).2.2.2.1.toNatClampNeg) (xs ((nI j) + 1).toNatClampNeg) (xs ((nI j) + 2).toNatClampNeg) (xs ((nI j) + 3).toNatClampNeg) (xs ((nI j) + 4).toNatClampNeg)).2.2.2.2.2.2.2.2.2.2.2.2.1) ((fX4_secret an pn gr ax ra rp rg rd so sl ces kd pl wt xk xp xw (Nat.min 6 (fX4_readSecret ((60 * (xs ((nI j) + 1).toNatClampNeg)) + (xs ((nI j) + 3).toNatClampNeg)) rg ces xk xp xw (((60 * (xs ((nI j) + 1).toNatClampNeg)) + (xs ((nI j) + 3).toNatClampNeg)) + (xs ((nI j) + 4).toNatClampNeg))).2.2.1.toNatClampNeg) (Nat.min 5 (fX4_readSecret ((60 * (xs ((nI j) + 1).toNatClampNeg)) + (xs ((nI j) + 3).toNatClampNeg)) rg ces xk xp xw (((60 * (xs ((nI j) + 1).toNatClampNeg)) + (xs ((nI j) + 3).toNatClampNeg)) + (xs ((nI j) + 4).toNatClampNeg))).2.2.2.1.toNatClampNeg) (xs ((nI j) + 1).toNatClampNeg) (xs ((nI j) + 2).toNatClampNeg) (xs ((nI j) + 3).toNatClampNeg) (xs ((nI j) + 4).toNatClampNeg)).2.2.1) ((fX4_secret an pn gr ax ra rp rg rd so sl ces kd pl wt xk xp xw (Nat.min 6 (fX4_readSecret ((60 * (xs ((nI j) + 1).toNatClampNeg)) + (xs ((nI j) + 3).toNatClampNeg)) rg ces xk xp xw (((60 * (xs ((nI j) + 1).toNatClampNeg)) + (xs ((nI j) + 3).toNatClampNeg)) + (xs ((nI j) + 4).toNatClampNeg))).2.2.1.toNatClampNeg) (Nat.min 5 (fX4_readSecret ((60 * (xs ((nI j) + 1).toNatClampNeg)) + (xs ((nI j) + 3).toNatClampNeg)) rg ces xk xp xw (((60 * (xs ((nI j) + 1).toNatClampNeg)) + (xs ((nI j) + 3).toNatClampNeg)) + (xs ((nI j) + 4).toNatClampNeg))).2.2.2.1.toNatClampNeg) (xs ((nI j) + 1).toNatClampNeg) (xs ((nI j) + 2).toNatClampNeg) (xs ((nI j) + 3).toNatClampNeg) (xs ((nI j) + 4).toNatClampNeg)).2.2.2.1) ((fX4_secret an pn gr ax ra rp rg rd so sl ces kd pl wt xk xp xw (Nat.min 6 (fX4_readSecret ((60 * (xs ((nI j) + 1).toNatClampNeg)) + (xs ((nI j) + 3).toNatClampNeg)) rg ces xk xp xw (((60 * (xs ((nI j) + 1).toNatClampNeg)) + (xs ((nI j) + 3).toNatClampNeg)) + (xs ((nI j) + 4).toNatClampNeg))).2.2.1.toNatClampNeg) (Nat.min 5 (fX4_readSecret ((60 * (xs ((nI j) + 1).toNatClampNeg)) + (xs ((nI j) + 3).toNatClampNeg)) rg ces xk xp xw (((60 * (xs ((nI j) + 1).toNatClampNeg)) + (xs ((nI j) + 3).toNatClampNeg)) + (xs ((nI j) + 4).toNatClampNeg))).2.2.2.1.toNatClampNeg) (xs ((nI j) + 1).toNatClampNeg) (xs ((nI j) + 2).toNatClampNeg) (xs ((nI j) + 3).toNatClampNeg) (xs ((nI j) + 4).toNatClampNeg)).2.2.2.2.1) ((fX4_secret an pn gr ax ra rp rg rd so sl ces kd pl wt xk xp xw (Nat.min 6 (fX4_readSecret ((60 * (xs ((nI j) + 1).toNatClampNeg)) + (xs ((nI j) + 3).toNatClampNeg)) rg ces xk xp xw (((60 * (xs ((nI j) + 1).toNatClampNeg)) + (xs ((nI j) + 3).toNatClampNeg)) + (xs ((nI j) + 4).toNatClampNeg))).2.2.1.toNatClampNeg) (Nat.min 5 (fX4_readSecret ((60 * (xs ((nI j) + 1).toNatClampNeg)) + (xs ((nI j) + 3).toNatClampNeg)) rg ces xk xp xw (((60 * (xs ((nI j) + 1).toNatClampNeg)) + (xs ((nI j) + 3).toNatClampNeg)) + (xs ((nI j) + 4).toNatClampNeg))).2.2.2.1.toNatClampNeg) (xs ((nI j) + 1).toNatClampNeg) (xs ((nI j) + 2).toNatClampNeg) (xs ((nI j) + 3).toNatClampNeg) (xs ((nI j) + 4).toNatClampNeg)).2.2.2.2.2.1) ((fX4_secret an pn gr ax ra rp rg rd so sl ces kd pl wt xk xp xw (Nat.min 6 (fX4_readSecret ((60 * (xs ((nI j) + 1).toNatClampNeg)) + (xs ((nI j) + 3).toNatClampNeg)) rg ces xk xp xw (((60 * (xs ((nI j) + 1).toNatClampNeg)) + (xs ((nI j) + 3).toNatClampNeg)) + (xs ((nI j) + 4).toNatClampNeg))).2.2.1.toNatClampNeg) (Nat.min 5 (fX4_readSecret ((60 * (xs ((nI j) + 1).toNatClampNeg)) + (xs ((nI j) + 3).toNatClampNeg)) rg ces xk xp xw (((60 * (xs ((nI j) + 1).toNatClampNeg)) + (xs ((nI j) + 3).toNatClampNeg)) + (xs ((nI j) + 4).toNatClampNeg))).2.2.2.1.toNatClampNeg) (xs ((nI j) + 1).toNatClampNeg) (xs ((nI j) + 2).toNatClampNeg) (xs ((nI j) + 3).toNatClampNeg) (xs ((nI j) + 4).toNatClampNeg)).2.2.2.2.2.2.2.2.2.2.2.2.2.2.2) so sl ces ((fX4_secret an pn gr ax ra rp rg rd so sl ces kd pl wt xk xp xw (Nat.min 6 (fX4_readSecret ((60 * (xs ((nI j) + 1).toNatClampNeg)) + (xs ((nI j) + 3).toNatClampNeg)) rg ces xk xp xw (((60 * (xs ((nI j) + 1).toNatClampNeg)) + (xs ((nI j) + 3).toNatClampNeg)) + (xs ((nI j) + 4).toNatClampNeg))).2.2.1.toNatClampNeg) (Nat.min 5 (fX4_readSecret ((60 * (xs ((nI j) + 1).toNatClampNeg)) + (xs ((nI j) + 3).toNatClampNeg)) rg ces xk xp xw (((60 * (xs ((nI j) + 1).toNatClampNeg)) + (xs ((nI j) + 3).toNatClampNeg)) + (xs ((nI j) + 4).toNatClampNeg))).2.2.2.1.toNatClampNeg) (xs ((nI j) + 1).toNatClampNeg) (xs ((nI j) + 2).toNatClampNeg) (xs ((nI j) + 3).toNatClampNeg) (xs ((nI j) + 4).toNatClampNeg)).2.2.2.2.2.2.2.2.2.2.1) ((fX4_secret an pn gr ax ra rp rg rd so sl ces kd pl wt xk xp xw (Nat.min 6 (fX4_readSecret ((60 * (xs ((nI j) + 1).toNatClampNeg)) + (xs ((nI j) + 3).toNatClampNeg)) rg ces xk xp xw (((60 * (xs ((nI j) + 1).toNatClampNeg)) + (xs ((nI j) + 3).toNatClampNeg)) + (xs ((nI j) + 4).toNatClampNeg))).2.2.1.toNatClampNeg) (Nat.min 5 (fX4_readSecret ((60 * (xs ((nI j) + 1).toNatClampNeg)) + (xs ((nI j) + 3).toNatClampNeg)) rg ces xk xp xw (((60 * (xs ((nI j) + 1).toNatClampNeg)) + (xs ((nI j) + 3).toNatClampNeg)) + (xs ((nI j) + 4).toNatClampNeg))).2.2.2.1.toNatClampNeg) (xs ((nI j) + 1).toNatClampNeg) (xs ((nI j) + 2).toNatClampNeg) (xs ((nI j) + 3).toNatClampNeg) (xs ((nI j) + 4).toNatClampNeg)).2.2.2.2.2.2.2.2.2.2.2.1) ((fX4_secret an pn gr ax ra rp rg rd so sl ces kd pl wt xk xp xw (Nat.min 6 (fX4_readSecret ((60 * (xs ((nI j) + 1).toNatClampNeg)) + (xs ((nI j) + 3).toNatClampNeg)) rg ces xk xp xw (((60 * (xs ((nI j) + 1).toNatClampNeg)) + (xs ((nI j) + 3).toNatClampNeg)) + (xs ((nI j) + 4).toNatClampNeg))).2.2.1.toNatClampNeg) (Nat.min 5 (fX4_readSecret ((60 * (xs ((nI j) + 1).toNatClampNeg)) + (xs ((nI j) + 3).toNatClampNeg)) rg ces xk xp xw (((60 * (xs ((nI j) + 1).toNatClampNeg)) + (xs ((nI j) + 3).toNatClampNeg)) + (xs ((nI j) + 4).toNatClampNeg))).2.2.2.1.toNatClampNeg) (xs ((nI j) + 1).toNatClampNeg) (xs ((nI j) + 2).toNatClampNeg) (xs ((nI j) + 3).toNatClampNeg) (xs ((nI j) + 4).toNatClampNeg)).2.2.2.2.2.2.2.2.2.2.2.2.2.2.1) ((fX4_secret an pn gr ax ra rp rg rd so sl ces kd pl wt xk xp xw (Nat.min 6 (fX4_readSecret ((60 * (xs ((nI j) + 1).toNatClampNeg)) + (xs ((nI j) + 3).toNatClampNeg)) rg ces xk xp xw (((60 * (xs ((nI j) + 1).toNatClampNeg)) + (xs ((nI j) + 3).toNatClampNeg)) + (xs ((nI j) + 4).toNatClampNeg))).2.2.1.toNatClampNeg) (Nat.min 5 (fX4_readSecret ((60 * (xs ((nI j) + 1).toNatClampNeg)) + (xs ((nI j) + 3).toNatClampNeg)) rg ces xk xp xw (((60 * (xs ((nI j) + 1).toNatClampNeg)) + (xs ((nI j) + 3).toNatClampNeg)) + (xs ((nI j) + 4).toNatClampNeg))).2.2.2.1.toNatClampNeg) (xs ((nI j) + 1).toNatClampNeg) (xs ((nI j) + 2).toNatClampNeg) (xs ((nI j) + 3).toNatClampNeg) (xs ((nI j) + 4).toNatClampNeg)).2.2.2.2.2.2.1) ((fX4_secret an pn gr ax ra rp rg rd so sl ces kd pl wt xk xp xw (Nat.min 6 (fX4_readSecret ((60 * (xs ((nI j) + 1).toNatClampNeg)) + (xs ((nI j) + 3).toNatClampNeg)) rg ces xk xp xw (((60 * (xs ((nI j) + 1).toNatClampNeg)) + (xs ((nI j) + 3).toNatClampNeg)) + (xs ((nI j) + 4).toNatClampNeg))).2.2.1.toNatClampNeg) (Nat.min 5 (fX4_readSecret ((60 * (xs ((nI j) + 1).toNatClampNeg)) + (xs ((nI j) + 3).toNatClampNeg)) rg ces xk xp xw (((60 * (xs ((nI j) + 1).toNatClampNeg)) + (xs ((nI j) + 3).toNatClampNeg)) + (xs ((nI j) + 4).toNatClampNeg))).2.2.2.1.toNatClampNeg) (xs ((nI j) + 1).toNatClampNeg) (xs ((nI j) + 2).toNatClampNeg) (xs ((nI j) + 3).toNatClampNeg) (xs ((nI j) + 4).toNatClampNeg)).2.2.2.2.2.2.2.1) ((fX4_secret an pn gr ax ra rp rg rd so sl ces kd pl wt xk xp xw (Nat.min 6 (fX4_readSecret ((60 * (xs ((nI j) + 1).toNatClampNeg)) + (xs ((nI j) + 3).toNatClampNeg)) rg ces xk xp xw (((60 * (xs ((nI j) + 1).toNatClampNeg)) + (xs ((nI j) + 3).toNatClampNeg)) + (xs ((nI j) + 4).toNatClampNeg))).2.2.1.toNatClampNeg) (Nat.min 5 (fX4_readSecret ((60 * (xs ((nI j) + 1).toNatClampNeg)) + (xs ((nI j) + 3).toNatClampNeg)) rg ces xk xp xw (((60 * (xs ((nI j) + 1).toNatClampNeg)) + (xs ((nI j) + 3).toNatClampNeg)) + (xs ((nI j) + 4).toNatClampNeg))).2.2.2.1.toNatClampNeg) (xs ((nI j) + 1).toNatClampNeg) (xs ((nI j) + 2).toNatClampNeg) (xs ((nI j) + 3).toNatClampNeg) (xs ((nI j) + 4).toNatClampNeg)).2.2.2.2.2.2.2.2.1) wo su ask shw)) hPW hPV hD hS rfl (va_runV (As := [.int (xs ((nI j) + 1).toNatClampNeg), .int (xs ((nI j) + 2).toNatClampNeg), .int (xs ((nI j) + 3).toNatClampNeg), .int (xs ((nI j) + 4).toNatClampNeg)]) (rest := [.int ((fX4_secret an pn gr ax ra rp rg rd so sl ces kd pl wt xk xp xw (Nat.min 6 (fX4_readSecret ((60 * (xs ((nI j) + 1).toNatClampNeg)) + (xs ((nI j) + 3).toNatClampNeg)) rg ces xk xp xw (((60 * (xs ((nI j) + 1).toNatClampNeg)) + (xs ((nI j) + 3).toNatClampNeg)) + (xs ((nI j) + 4).toNatClampNeg))).2.2.1.toNatClampNeg) (Nat.min 5 (fX4_readSecret ((60 * (xs ((nI j) + 1).toNatClampNeg)) + (xs ((nI j) + 3).toNatClampNeg)) rg ces xk xp xw (((60 * (xs ((nI j) + 1).toNatClampNeg)) + (xs ((nI j) + 3).toNatClampNeg)) + (xs ((nI j) + 4).toNatClampNeg))).2.2.2.1.toNatClampNeg) (xs ((nI j) + 1).toNatClampNeg) (xs ((nI j) + 2).toNatClampNeg) (xs ((nI j) + 3).toNatClampNeg) (xs ((nI j) + 4).toNatClampNeg)).1)]) ⟨hx, hb, hml, hown, hts⟩ (c_X4_secret l D cI cS hm m1 m2 m3 m4 m5 m6 m7 m8 m9 m10 m11 m12 m13 lf tr an pn gr ax ra rp rg rd so sl ces kd pl wt xk xp xw wo su ask shw (Nat.min 6 (fX4_readSecret ((60 * (xs ((nI j) + 1).toNatClampNeg)) + (xs ((nI j) + 3).toNatClampNeg)) rg ces xk xp xw (((60 * (xs ((nI j) + 1).toNatClampNeg)) + (xs ((nI j) + 3).toNatClampNeg)) + (xs ((nI j) + 4).toNatClampNeg))).2.2.1.toNatClampNeg) (Nat.min 5 (fX4_readSecret ((60 * (xs ((nI j) + 1).toNatClampNeg)) + (xs ((nI j) + 3).toNatClampNeg)) rg ces xk xp xw (((60 * (xs ((nI j) + 1).toNatClampNeg)) + (xs ((nI j) + 3).toNatClampNeg)) + (xs ((nI j) + 4).toNatClampNeg))).2.2.2.1.toNatClampNeg) (xs ((nI j) + 1).toNatClampNeg) (xs ((nI j) + 2).toNatClampNeg) (xs ((nI j) + 3).toNatClampNeg) (xs ((nI j) + 4).toNatClampNeg) (cw_hsl hC) (fun h => (rs_n h).1) (Nat.min_le_left _ _) (fun h => (rs_n h).2) (Nat.min_le_left _ _)) (cwV 4 hts gL_law_X4_secret rfl rfl rfl q_X4_secret ⟨Nat.le_of_ble_eq_true rfl, Nat.le_of_ble_eq_true rfl⟩) ⟨kBD_blind, va_recv hK.1 hPV (ci := 4) (q0 := 0) rfl rfl, kBD_of hK hPV (kD_right hD) (.ref hm :: [.int (xs ((nI j) + 1).toNatClampNeg), .int (xs ((nI j) + 2).toNatClampNeg), .int (xs ((nI j) + 3).toNatClampNeg), .int (xs ((nI j) + 4).toNatClampNeg)])⟩ rfl rfl hl.1 rfl (lv_room (Nat.le_of_ble_eq_true rfl)) dL_law_209 ⟨Nat.le_refl _, Nat.le_refl _⟩) (fun H locs hPW hPV hD hS => ?_)
      refine lv_icmp_eq (tgt := 1066) hx hb dL_law_212 (by decide) (fun c9 => ?_) (fun c9 => absurd rfl c9)
      obtain ⟨N2, P2, R2, hC2⟩ := hC2
      refine lv_iinc (v := nI (j + 7)) (lv' := [(3, .int (nI (j + 7))), (0, .ref b), (1, .ref h1), (2, .ref hm)]) hx hb dL_law_1066 hl (k := 3) rfl (nI_add j 7) (by decide) rfl (fun ls hl => ?_)
      refine lv_goto (tgt := 18) hx hb dL_law_1069 (by decide) ?_
      exact ih0 (j + 7) hj7 (by omega) _ _ _ _ _ _ _ _ _ _ _ _ _ _ _ _ _ _ _ _ _ _ _ _ _ _ _ _ _ _ _ _ _ _ _ _ _ _ _ _ _ _ hC2 _ _ hPW hPV hD hS ls (lv_sub hl [1, 2, 3, 0] rfl)
    by_cases c33_1 : z9 = 1
    · skip
      refine lv_tableIn (tgt := 217) (off := 184) hx hb dL_law_33 (by rw [c33_1]; decide) (by rw [c33_1]; decide) (by rw [c33_1]; decide) (by decide) ?_
      refine lv_aload_n hx hb dL_law_217 rfl (lv_at hl 1 rfl) ?_
      refine lv_aload_n hx hb dL_law_218 rfl (lv_at hl 0 rfl) ?_
      refine lv_iload_n hx hb dL_law_219 rfl (lv_at hl 3 rfl) ?_
      refine lv_iconst (v := 1) hx hb dL_law_220 (by decide) ?_
      refine lv_iadd hx hb dL_law_221 ?_
      refine va_sld hx hb hX hbl hbA hS (lwIn 1 hj7 (by omega)) dL_law_222 ?_
      refine lv_aload_n hx hb dL_law_223 rfl (lv_at hl 0 rfl) ?_
      refine lv_iload_n hx hb dL_law_224 rfl (lv_at hl 3 rfl) ?_
      refine lv_iconst (v := 2) hx hb dL_law_225 (by decide) ?_
      refine lv_iadd hx hb dL_law_226 ?_
      refine va_sld hx hb hX hbl hbA hS (lwIn 2 hj7 (by omega)) dL_law_227 ?_
      refine kLi hPW hPV hD hS (va_runV (As := [.int (xs ((nI j) + 1).toNatClampNeg), .int (xs ((nI j) + 2).toNatClampNeg)]) (rest := []) ⟨hx, hb, hml, hown, hts⟩ (L_ofAnswer l D cI cS hC (wo := wo) (su := su) (xk := xk) (xp := xp) (xw := xw) (ax := ax) (ra := ra) (rp := rp) (rg := rg) (xs ((nI j) + 1).toNatClampNeg) (xs ((nI j) + 2).toNatClampNeg)) (cwV 2 hts gL_law_X3_ofAnswer rfl rfl rfl q_X3_ofAnswer ⟨Nat.le_of_ble_eq_true rfl, Nat.le_of_ble_eq_true rfl⟩) ⟨kBD_blind, cw_recv hK hC hPW, kBD_of hK hPW (kD_left hD) (.ref h1 :: [.int (xs ((nI j) + 1).toNatClampNeg), .int (xs ((nI j) + 2).toNatClampNeg)])⟩ rfl rfl hl.1 rfl (lv_room (Nat.le_of_ble_eq_true rfl)) dL_law_228 ⟨Nat.le_refl _, Nat.le_refl _⟩) (fun Xv H locs hC2 hPW hPV hD hS hfst => ?_)
      refine lv_aload_n hx hb dL_law_231 rfl (lv_at hl 2 rfl) ?_
      refine lv_aload_n hx hb dL_law_232 rfl (lv_at hl 0 rfl) ?_
      refine lv_iload_n hx hb dL_law_233 rfl (lv_at hl 3 rfl) ?_
      refine lv_iconst (v := 1) hx hb dL_law_234 (by decide) ?_
      refine lv_iadd hx hb dL_law_235 ?_
      refine va_sld hx hb hX hbl hbA hS (lwIn 1 hj7 (by omega)) dL_law_236 ?_
      refine lv_aload_n hx hb dL_law_237 rfl (lv_at hl 0 rfl) ?_
      refine lv_iload_n hx hb dL_law_238 rfl (lv_at hl 3 rfl) ?_
      refine lv_iconst (v := 2) hx hb dL_law_239 (by decide) ?_
      refine lv_iadd hx hb dL_law_240 ?_
      refine va_sld hx hb hX hbl hbA hS (lwIn 2 hj7 (by omega)) dL_law_241 ?_
      refine kRi (V1 := (wMo cI hm m1 m2 m3 m4 m5 m6 m7 m8 m9 m10 m11 m12 m13 lf tr an pn gr ax ra rp rg rd so sl ces kd pl wt xk xp xw wo su ask shw)) hPW hPV hD hS rfl (va_runV (As := [.int (xs ((nI j) + 1).toNatClampNeg), .int (xs ((nI j) + 2).toNatClampNeg)]) (rest := [.int (fX4_ofAnswer an kd pl (xs ((nI j) + 1).toNatClampNeg) (xs ((nI j) + 2).toNatClampNeg))]) ⟨hx, hb, hml, hown, hts⟩ (RMi.pure (c_X4_ofAnswer l D cI cS hm m1 m2 m3 m4 m5 m6 m7 m8 m9 m10 m11 m12 m13 lf tr an pn gr ax ra rp rg rd so sl ces kd pl wt xk xp xw wo su ask shw N (xs ((nI j) + 1).toNatClampNeg) (xs ((nI j) + 2).toNatClampNeg) (cw_ha hC) (cw_hN hC))) (cwV 2 hts gL_law_X4_ofAnswer rfl rfl rfl q_X4_ofAnswer ⟨Nat.le_of_ble_eq_true rfl, Nat.le_of_ble_eq_true rfl⟩) ⟨kBD_blind, va_recv hK.1 hPV (ci := 4) (q0 := 0) rfl rfl, kBD_of hK hPV (kD_right hD) (.ref hm :: [.int (xs ((nI j) + 1).toNatClampNeg), .int (xs ((nI j) + 2).toNatClampNeg)])⟩ rfl rfl hl.1 rfl (lv_room (Nat.le_of_ble_eq_true rfl)) dL_law_242 ⟨Nat.le_refl _, Nat.le_refl _⟩) (fun H locs hPW hPV hD hS => ?_)
      refine lv_icmp_eq (tgt := 1066) hx hb dL_law_245 (by decide) (fun c9 => ?_) (fun c9 => absurd rfl c9)
      obtain ⟨N2, P2, R2, hC2⟩ := hC2
      refine lv_iinc (v := nI (j + 7)) (lv' := [(3, .int (nI (j + 7))), (0, .ref b), (1, .ref h1), (2, .ref hm)]) hx hb dL_law_1066 hl (k := 3) rfl (nI_add j 7) (by decide) rfl (fun ls hl => ?_)
      refine lv_goto (tgt := 18) hx hb dL_law_1069 (by decide) ?_
      exact ih0 (j + 7) hj7 (by omega) _ _ _ _ _ _ _ _ _ _ _ _ _ _ _ _ _ _ _ _ _ _ _ _ _ _ _ _ _ _ _ _ _ _ _ _ _ _ _ _ _ _ hC2 _ _ hPW hPV hD hS ls (lv_sub hl [1, 2, 3, 0] rfl)
    by_cases c33_2 : z9 = 2
    · skip
      refine lv_tableIn (tgt := 250) (off := 217) hx hb dL_law_33 (by rw [c33_2]; decide) (by rw [c33_2]; decide) (by rw [c33_2]; decide) (by decide) ?_
      refine lv_aload_n hx hb dL_law_250 rfl (lv_at hl 1 rfl) ?_
      refine lv_aload_n hx hb dL_law_251 rfl (lv_at hl 0 rfl) ?_
      refine lv_iload_n hx hb dL_law_252 rfl (lv_at hl 3 rfl) ?_
      refine lv_iconst (v := 1) hx hb dL_law_253 (by decide) ?_
      refine lv_iadd hx hb dL_law_254 ?_
      refine va_sld hx hb hX hbl hbA hS (lwIn 1 hj7 (by omega)) dL_law_255 ?_
      refine lv_aload_n hx hb dL_law_256 rfl (lv_at hl 0 rfl) ?_
      refine lv_iload_n hx hb dL_law_257 rfl (lv_at hl 3 rfl) ?_
      refine lv_iconst (v := 2) hx hb dL_law_258 (by decide) ?_
      refine lv_iadd hx hb dL_law_259 ?_
      refine va_sld hx hb hX hbl hbA hS (lwIn 2 hj7 (by omega)) dL_law_260 ?_
      refine kLi hPW hPV hD hS (va_runV (As := [.int (xs ((nI j) + 1).toNatClampNeg), .int (xs ((nI j) + 2).toNatClampNeg)]) (rest := []) ⟨hx, hb, hml, hown, hts⟩ (L_move l D cI cS hC (wo := wo) (su := su) (xk := xk) (xp := xp) (xw := xw) (ax := ax) (ra := ra) (rp := rp) (rg := rg) (xs ((nI j) + 1).toNatClampNeg) (xs ((nI j) + 2).toNatClampNeg)) (cwV 2 hts gL_law_X3_move rfl rfl rfl q_X3_move ⟨Nat.le_of_ble_eq_true rfl, Nat.le_of_ble_eq_true rfl⟩) ⟨kBD_blind, cw_recv hK hC hPW, kBD_of hK hPW (kD_left hD) (.ref h1 :: [.int (xs ((nI j) + 1).toNatClampNeg), .int (xs ((nI j) + 2).toNatClampNeg)])⟩ rfl rfl hl.1 rfl (lv_room (Nat.le_of_ble_eq_true rfl)) dL_law_261 ⟨Nat.le_refl _, Nat.le_refl _⟩) (fun Xv H locs hC2 hPW hPV hD hS hfst => ?_)
      refine lv_aload_n hx hb dL_law_264 rfl (lv_at hl 2 rfl) ?_
      refine lv_aload_n hx hb dL_law_265 rfl (lv_at hl 0 rfl) ?_
      refine lv_iload_n hx hb dL_law_266 rfl (lv_at hl 3 rfl) ?_
      refine lv_iconst (v := 1) hx hb dL_law_267 (by decide) ?_
      refine lv_iadd hx hb dL_law_268 ?_
      refine va_sld hx hb hX hbl hbA hS (lwIn 1 hj7 (by omega)) dL_law_269 ?_
      refine lv_aload_n hx hb dL_law_270 rfl (lv_at hl 0 rfl) ?_
      refine lv_iload_n hx hb dL_law_271 rfl (lv_at hl 3 rfl) ?_
      refine lv_iconst (v := 2) hx hb dL_law_272 (by decide) ?_
      refine lv_iadd hx hb dL_law_273 ?_
      refine va_sld hx hb hX hbl hbA hS (lwIn 2 hj7 (by omega)) dL_law_274 ?_
      refine kRi (V1 := (wMo cI hm m1 m2 m3 m4 m5 m6 m7 m8 m9 m10 m11 m12 m13 lf tr an pn gr ax ra rp rg rd so sl ces kd ((fX4_move an pl (xs ((nI j) + 1).toNatClampNeg) (xs ((nI j) + 2).toNatClampNeg)).2) wt xk xp xw wo su ask shw)) hPW hPV hD hS rfl (va_runV (As := [.int (xs ((nI j) + 1).toNatClampNeg), .int (xs ((nI j) + 2).toNatClampNeg)]) (rest := [.int ((fX4_move an pl (xs ((nI j) + 1).toNatClampNeg) (xs ((nI j) + 2).toNatClampNeg)).1)]) ⟨hx, hb, hml, hown, hts⟩ (c_X4_move l D cI cS hm m1 m2 m3 m4 m5 m6 m7 m8 m9 m10 m11 m12 m13 lf tr an pn gr ax ra rp rg rd so sl ces kd pl wt xk xp xw wo su ask shw N (xs ((nI j) + 1).toNatClampNeg) (xs ((nI j) + 2).toNatClampNeg) (cw_ha hC) (cw_hN hC)) (cwV 2 hts gL_law_X4_move rfl rfl rfl q_X4_move ⟨Nat.le_of_ble_eq_true rfl, Nat.le_of_ble_eq_true rfl⟩) ⟨kBD_blind, va_recv hK.1 hPV (ci := 4) (q0 := 0) rfl rfl, kBD_of hK hPV (kD_right hD) (.ref hm :: [.int (xs ((nI j) + 1).toNatClampNeg), .int (xs ((nI j) + 2).toNatClampNeg)])⟩ rfl rfl hl.1 rfl (lv_room (Nat.le_of_ble_eq_true rfl)) dL_law_275 ⟨Nat.le_refl _, Nat.le_refl _⟩) (fun H locs hPW hPV hD hS => ?_)
      refine lv_icmp_eq (tgt := 1066) hx hb dL_law_278 (by decide) (fun c9 => ?_) (fun c9 => absurd rfl c9)
      obtain ⟨N2, P2, R2, hC2⟩ := hC2
      refine lv_iinc (v := nI (j + 7)) (lv' := [(3, .int (nI (j + 7))), (0, .ref b), (1, .ref h1), (2, .ref hm)]) hx hb dL_law_1066 hl (k := 3) rfl (nI_add j 7) (by decide) rfl (fun ls hl => ?_)
      refine lv_goto (tgt := 18) hx hb dL_law_1069 (by decide) ?_
      exact ih0 (j + 7) hj7 (by omega) _ _ _ _ _ _ _ _ _ _ _ _ _ _ _ _ _ _ _ _ _ _ _ _ _ _ _ _ _ _ _ _ _ _ _ _ _ _ _ _ _ _ hC2 _ _ hPW hPV hD hS ls (lv_sub hl [1, 2, 3, 0] rfl)
    by_cases c33_3 : z9 = 3
    · skip
      refine lv_tableIn (tgt := 283) (off := 250) hx hb dL_law_33 (by rw [c33_3]; decide) (by rw [c33_3]; decide) (by rw [c33_3]; decide) (by decide) ?_
      refine lv_aload_n hx hb dL_law_283 rfl (lv_at hl 1 rfl) ?_
      refine lv_aload_n hx hb dL_law_284 rfl (lv_at hl 0 rfl) ?_
      refine lv_iload_n hx hb dL_law_285 rfl (lv_at hl 3 rfl) ?_
      refine lv_iconst (v := 1) hx hb dL_law_286 (by decide) ?_
      refine lv_iadd hx hb dL_law_287 ?_
      refine va_sld hx hb hX hbl hbA hS (lwIn 1 hj7 (by omega)) dL_law_288 ?_
      refine kLi hPW hPV hD hS (va_runV (As := [.int (xs ((nI j) + 1).toNatClampNeg)]) (rest := []) ⟨hx, hb, hml, hown, hts⟩ (L_grow l D cI cS hC (wo := wo) (su := su) (xk := xk) (xp := xp) (xw := xw) (ax := ax) (ra := ra) (rp := rp) (rg := rg) (xs ((nI j) + 1).toNatClampNeg)) (cwV 1 hts gL_law_X3_grow rfl rfl rfl q_X3_grow ⟨Nat.le_of_ble_eq_true rfl, Nat.le_of_ble_eq_true rfl⟩) ⟨kBD_blind, cw_recv hK hC hPW, kBD_of hK hPW (kD_left hD) (.ref h1 :: [.int (xs ((nI j) + 1).toNatClampNeg)])⟩ rfl rfl hl.1 rfl (lv_room (Nat.le_of_ble_eq_true rfl)) dL_law_289 ⟨Nat.le_refl _, Nat.le_refl _⟩) (fun Xv H locs hC2 hPW hPV hD hS hfst => ?_)
      refine lv_aload_n hx hb dL_law_292 rfl (lv_at hl 2 rfl) ?_
      refine lv_aload_n hx hb dL_law_293 rfl (lv_at hl 0 rfl) ?_
      refine lv_iload_n hx hb dL_law_294 rfl (lv_at hl 3 rfl) ?_
      refine lv_iconst (v := 1) hx hb dL_law_295 (by decide) ?_
      refine lv_iadd hx hb dL_law_296 ?_
      refine va_sld hx hb hX hbl hbA hS (lwIn 1 hj7 (by omega)) dL_law_297 ?_
      refine kRi (V1 := (wMo cI hm m1 m2 m3 m4 m5 m6 m7 m8 m9 m10 m11 m12 m13 lf tr an pn ((fX4_grow an gr (xs ((nI j) + 1).toNatClampNeg)).2) ax ra rp rg rd so sl ces kd pl wt xk xp xw wo su ask shw)) hPW hPV hD hS rfl (va_runV (As := [.int (xs ((nI j) + 1).toNatClampNeg)]) (rest := [.int ((fX4_grow an gr (xs ((nI j) + 1).toNatClampNeg)).1)]) ⟨hx, hb, hml, hown, hts⟩ (c_X4_grow l D cI cS hm m1 m2 m3 m4 m5 m6 m7 m8 m9 m10 m11 m12 m13 lf tr an pn gr ax ra rp rg rd so sl ces kd pl wt xk xp xw wo su ask shw (xs ((nI j) + 1).toNatClampNeg)) (cwV 1 hts gL_law_X4_grow rfl rfl rfl q_X4_grow ⟨Nat.le_of_ble_eq_true rfl, Nat.le_of_ble_eq_true rfl⟩) ⟨kBD_blind, va_recv hK.1 hPV (ci := 4) (q0 := 0) rfl rfl, kBD_of hK hPV (kD_right hD) (.ref hm :: [.int (xs ((nI j) + 1).toNatClampNeg)])⟩ rfl rfl hl.1 rfl (lv_room (Nat.le_of_ble_eq_true rfl)) dL_law_298 ⟨Nat.le_refl _, Nat.le_refl _⟩) (fun H locs hPW hPV hD hS => ?_)
      refine lv_icmp_eq (tgt := 1066) hx hb dL_law_301 (by decide) (fun c9 => ?_) (fun c9 => absurd rfl c9)
      obtain ⟨N2, P2, R2, hC2⟩ := hC2
      refine lv_iinc (v := nI (j + 7)) (lv' := [(3, .int (nI (j + 7))), (0, .ref b), (1, .ref h1), (2, .ref hm)]) hx hb dL_law_1066 hl (k := 3) rfl (nI_add j 7) (by decide) rfl (fun ls hl => ?_)
      refine lv_goto (tgt := 18) hx hb dL_law_1069 (by decide) ?_
      exact ih0 (j + 7) hj7 (by omega) _ _ _ _ _ _ _ _ _ _ _ _ _ _ _ _ _ _ _ _ _ _ _ _ _ _ _ _ _ _ _ _ _ _ _ _ _ _ _ _ _ _ hC2 _ _ hPW hPV hD hS ls (lv_sub hl [1, 2, 3, 0] rfl)
    by_cases c33_4 : z9 = 4
    · skip
      refine lv_tableIn (tgt := 306) (off := 273) hx hb dL_law_33 (by rw [c33_4]; decide) (by rw [c33_4]; decide) (by rw [c33_4]; decide) (by decide) ?_
      refine lv_aload_n hx hb dL_law_306 rfl (lv_at hl 1 rfl) ?_
      refine lv_aload_n hx hb dL_law_307 rfl (lv_at hl 0 rfl) ?_
      refine lv_iload_n hx hb dL_law_308 rfl (lv_at hl 3 rfl) ?_
      refine lv_iconst (v := 1) hx hb dL_law_309 (by decide) ?_
      refine lv_iadd hx hb dL_law_310 ?_
      refine va_sld hx hb hX hbl hbA hS (lwIn 1 hj7 (by omega)) dL_law_311 ?_
      refine lv_aload_n hx hb dL_law_312 rfl (lv_at hl 0 rfl) ?_
      refine lv_iload_n hx hb dL_law_313 rfl (lv_at hl 3 rfl) ?_
      refine lv_iconst (v := 2) hx hb dL_law_314 (by decide) ?_
      refine lv_iadd hx hb dL_law_315 ?_
      refine va_sld hx hb hX hbl hbA hS (lwIn 2 hj7 (by omega)) dL_law_316 ?_
      refine kLi hPW hPV hD hS (va_runV (As := [.int (xs ((nI j) + 1).toNatClampNeg), .int (xs ((nI j) + 2).toNatClampNeg)]) (rest := []) ⟨hx, hb, hml, hown, hts⟩ (L_shown l D cI cS hC (wo := wo) (su := su) (xk := xk) (xp := xp) (xw := xw) (ax := ax) (ra := ra) (rp := rp) (rg := rg) (xs ((nI j) + 1).toNatClampNeg) (xs ((nI j) + 2).toNatClampNeg)) (cwV 2 hts gL_law_X3_shown rfl rfl rfl q_X3_shown ⟨Nat.le_of_ble_eq_true rfl, Nat.le_of_ble_eq_true rfl⟩) ⟨kBD_blind, cw_recv hK hC hPW, kBD_of hK hPW (kD_left hD) (.ref h1 :: [.int (xs ((nI j) + 1).toNatClampNeg), .int (xs ((nI j) + 2).toNatClampNeg)])⟩ rfl rfl hl.1 rfl (lv_room (Nat.le_of_ble_eq_true rfl)) dL_law_317 ⟨Nat.le_refl _, Nat.le_refl _⟩) (fun Xv H locs hC2 hPW hPV hD hS hfst => ?_)
      refine lv_aload_n hx hb dL_law_320 rfl (lv_at hl 2 rfl) ?_
      refine lv_aload_n hx hb dL_law_321 rfl (lv_at hl 0 rfl) ?_
      refine lv_iload_n hx hb dL_law_322 rfl (lv_at hl 3 rfl) ?_
      refine lv_iconst (v := 1) hx hb dL_law_323 (by decide) ?_
      refine lv_iadd hx hb dL_law_324 ?_
      refine va_sld hx hb hX hbl hbA hS (lwIn 1 hj7 (by omega)) dL_law_325 ?_
      refine lv_aload_n hx hb dL_law_326 rfl (lv_at hl 0 rfl) ?_
      refine lv_iload_n hx hb dL_law_327 rfl (lv_at hl 3 rfl) ?_
      refine lv_iconst (v := 2) hx hb dL_law_328 (by decide) ?_
      refine lv_iadd hx hb dL_law_329 ?_
      refine va_sld hx hb hX hbl hbA hS (lwIn 2 hj7 (by omega)) dL_law_330 ?_
      refine kRi (V1 := (wMo cI hm m1 m2 m3 m4 m5 m6 m7 m8 m9 m10 m11 m12 m13 lf tr an pn gr ax ra rp rg rd so sl ces kd pl wt xk xp xw wo su ask shw)) hPW hPV hD hS rfl (va_runV (As := [.int (xs ((nI j) + 1).toNatClampNeg), .int (xs ((nI j) + 2).toNatClampNeg)]) (rest := [.int (fX4_shown an kd pl (xs ((nI j) + 1).toNatClampNeg) (xs ((nI j) + 2).toNatClampNeg))]) ⟨hx, hb, hml, hown, hts⟩ (RMi.pure (c_X4_shown l D cI cS hm m1 m2 m3 m4 m5 m6 m7 m8 m9 m10 m11 m12 m13 lf tr an pn gr ax ra rp rg rd so sl ces kd pl wt xk xp xw wo su ask shw N (xs ((nI j) + 1).toNatClampNeg) (xs ((nI j) + 2).toNatClampNeg) (cw_ha hC) (cw_hN hC))) (cwV 2 hts gL_law_X4_shown rfl rfl rfl q_X4_shown ⟨Nat.le_of_ble_eq_true rfl, Nat.le_of_ble_eq_true rfl⟩) ⟨kBD_blind, va_recv hK.1 hPV (ci := 4) (q0 := 0) rfl rfl, kBD_of hK hPV (kD_right hD) (.ref hm :: [.int (xs ((nI j) + 1).toNatClampNeg), .int (xs ((nI j) + 2).toNatClampNeg)])⟩ rfl rfl hl.1 rfl (lv_room (Nat.le_of_ble_eq_true rfl)) dL_law_331 ⟨Nat.le_refl _, Nat.le_refl _⟩) (fun H locs hPW hPV hD hS => ?_)
      refine lv_icmp_eq (tgt := 1066) hx hb dL_law_334 (by decide) (fun c9 => ?_) (fun c9 => absurd rfl c9)
      obtain ⟨N2, P2, R2, hC2⟩ := hC2
      refine lv_iinc (v := nI (j + 7)) (lv' := [(3, .int (nI (j + 7))), (0, .ref b), (1, .ref h1), (2, .ref hm)]) hx hb dL_law_1066 hl (k := 3) rfl (nI_add j 7) (by decide) rfl (fun ls hl => ?_)
      refine lv_goto (tgt := 18) hx hb dL_law_1069 (by decide) ?_
      exact ih0 (j + 7) hj7 (by omega) _ _ _ _ _ _ _ _ _ _ _ _ _ _ _ _ _ _ _ _ _ _ _ _ _ _ _ _ _ _ _ _ _ _ _ _ _ _ _ _ _ _ hC2 _ _ hPW hPV hD hS ls (lv_sub hl [1, 2, 3, 0] rfl)
    by_cases c33_5 : z9 = 5
    · skip
      refine lv_tableIn (tgt := 339) (off := 306) hx hb dL_law_33 (by rw [c33_5]; decide) (by rw [c33_5]; decide) (by rw [c33_5]; decide) (by decide) ?_
      refine lv_aload_n hx hb dL_law_339 rfl (lv_at hl 1 rfl) ?_
      refine lv_aload_n hx hb dL_law_340 rfl (lv_at hl 0 rfl) ?_
      refine lv_iload_n hx hb dL_law_341 rfl (lv_at hl 3 rfl) ?_
      refine lv_iconst (v := 1) hx hb dL_law_342 (by decide) ?_
      refine lv_iadd hx hb dL_law_343 ?_
      refine va_sld hx hb hX hbl hbA hS (lwIn 1 hj7 (by omega)) dL_law_344 ?_
      refine lv_aload_n hx hb dL_law_345 rfl (lv_at hl 0 rfl) ?_
      refine lv_iload_n hx hb dL_law_346 rfl (lv_at hl 3 rfl) ?_
      refine lv_iconst (v := 2) hx hb dL_law_347 (by decide) ?_
      refine lv_iadd hx hb dL_law_348 ?_
      refine va_sld hx hb hX hbl hbA hS (lwIn 2 hj7 (by omega)) dL_law_349 ?_
      refine lv_aload_n hx hb dL_law_350 rfl (lv_at hl 0 rfl) ?_
      refine lv_iload_n hx hb dL_law_351 rfl (lv_at hl 3 rfl) ?_
      refine lv_iconst (v := 3) hx hb dL_law_352 (by decide) ?_
      refine lv_iadd hx hb dL_law_353 ?_
      refine va_sld hx hb hX hbl hbA hS (lwIn 3 hj7 (by omega)) dL_law_354 ?_
      refine lv_aload_n hx hb dL_law_355 rfl (lv_at hl 0 rfl) ?_
      refine lv_iload_n hx hb dL_law_356 rfl (lv_at hl 3 rfl) ?_
      refine lv_iconst (v := 4) hx hb dL_law_357 (by decide) ?_
      refine lv_iadd hx hb dL_law_358 ?_
      refine va_sld hx hb hX hbl hbA hS (lwIn 4 hj7 (by omega)) dL_law_359 ?_
      refine lv_aload_n hx hb dL_law_360 rfl (lv_at hl 0 rfl) ?_
      refine lv_iload_n hx hb dL_law_361 rfl (lv_at hl 3 rfl) ?_
      refine lv_iconst (v := 5) hx hb dL_law_362 (by decide) ?_
      refine lv_iadd hx hb dL_law_363 ?_
      refine va_sld hx hb hX hbl hbA hS (lwIn 5 hj7 (by omega)) dL_law_364 ?_
      refine lv_aload_n hx hb dL_law_365 rfl (lv_at hl 0 rfl) ?_
      refine lv_iload_n hx hb dL_law_366 rfl (lv_at hl 3 rfl) ?_
      refine lv_bipush (v := 6) hx hb dL_law_367 (by decide) ?_
      refine lv_iadd hx hb dL_law_369 ?_
      refine va_sld hx hb hX hbl hbA hS (lwIn 6 hj7 (by omega)) dL_law_370 ?_
      refine kLi hPW hPV hD hS (va_runV (As := [.int (xs ((nI j) + 1).toNatClampNeg), .int (xs ((nI j) + 2).toNatClampNeg), .int (xs ((nI j) + 3).toNatClampNeg), .int (xs ((nI j) + 4).toNatClampNeg), .int (xs ((nI j) + 5).toNatClampNeg), .int (xs ((nI j) + 6).toNatClampNeg)]) (rest := []) ⟨hx, hb, hml, hown, hts⟩ (L_nights l D cI cS hC (wo := wo) (su := su) (xk := xk) (xp := xp) (xw := xw) (ax := ax) (ra := ra) (rp := rp) (rg := rg) (xs ((nI j) + 1).toNatClampNeg) (xs ((nI j) + 2).toNatClampNeg) (xs ((nI j) + 3).toNatClampNeg) (xs ((nI j) + 4).toNatClampNeg) (xs ((nI j) + 5).toNatClampNeg) (xs ((nI j) + 6).toNatClampNeg)) (cwV 6 hts gL_law_X3_nights rfl rfl rfl q_X3_nights ⟨Nat.le_of_ble_eq_true rfl, Nat.le_of_ble_eq_true rfl⟩) ⟨kBD_blind, cw_recv hK hC hPW, kBD_of hK hPW (kD_left hD) (.ref h1 :: [.int (xs ((nI j) + 1).toNatClampNeg), .int (xs ((nI j) + 2).toNatClampNeg), .int (xs ((nI j) + 3).toNatClampNeg), .int (xs ((nI j) + 4).toNatClampNeg), .int (xs ((nI j) + 5).toNatClampNeg), .int (xs ((nI j) + 6).toNatClampNeg)])⟩ rfl rfl hl.1 rfl (lv_room (Nat.le_of_ble_eq_true rfl)) dL_law_371 ⟨Nat.le_refl _, Nat.le_refl _⟩) (fun Xv H locs hC2 hPW hPV hD hS hfst => ?_)
      refine lv_aload_n hx hb dL_law_374 rfl (lv_at hl 2 rfl) ?_
      refine lv_aload_n hx hb dL_law_375 rfl (lv_at hl 0 rfl) ?_
      refine lv_iload_n hx hb dL_law_376 rfl (lv_at hl 3 rfl) ?_
      refine lv_iconst (v := 1) hx hb dL_law_377 (by decide) ?_
      refine lv_iadd hx hb dL_law_378 ?_
      refine va_sld hx hb hX hbl hbA hS (lwIn 1 hj7 (by omega)) dL_law_379 ?_
      refine lv_aload_n hx hb dL_law_380 rfl (lv_at hl 0 rfl) ?_
      refine lv_iload_n hx hb dL_law_381 rfl (lv_at hl 3 rfl) ?_
      refine lv_iconst (v := 2) hx hb dL_law_382 (by decide) ?_
      refine lv_iadd hx hb dL_law_383 ?_
      refine va_sld hx hb hX hbl hbA hS (lwIn 2 hj7 (by omega)) dL_law_384 ?_
      refine lv_aload_n hx hb dL_law_385 rfl (lv_at hl 0 rfl) ?_
      refine lv_iload_n hx hb dL_law_386 rfl (lv_at hl 3 rfl) ?_
      refine lv_iconst (v := 3) hx hb dL_law_387 (by decide) ?_
      refine lv_iadd hx hb dL_law_388 ?_
      refine va_sld hx hb hX hbl hbA hS (lwIn 3 hj7 (by omega)) dL_law_389 ?_
      refine lv_aload_n hx hb dL_law_390 rfl (lv_at hl 0 rfl) ?_
      refine lv_iload_n hx hb dL_law_391 rfl (lv_at hl 3 rfl) ?_
      refine lv_iconst (v := 4) hx hb dL_law_392 (by decide) ?_
      refine lv_iadd hx hb dL_law_393 ?_
      refine va_sld hx hb hX hbl hbA hS (lwIn 4 hj7 (by omega)) dL_law_394 ?_
      refine lv_aload_n hx hb dL_law_395 rfl (lv_at hl 0 rfl) ?_
      refine lv_iload_n hx hb dL_law_396 rfl (lv_at hl 3 rfl) ?_
      refine lv_iconst (v := 5) hx hb dL_law_397 (by decide) ?_
      refine lv_iadd hx hb dL_law_398 ?_
      refine va_sld hx hb hX hbl hbA hS (lwIn 5 hj7 (by omega)) dL_law_399 ?_
      refine lv_aload_n hx hb dL_law_400 rfl (lv_at hl 0 rfl) ?_
      refine lv_iload_n hx hb dL_law_401 rfl (lv_at hl 3 rfl) ?_
      refine lv_bipush (v := 6) hx hb dL_law_402 (by decide) ?_
      refine lv_iadd hx hb dL_law_404 ?_
      refine va_sld hx hb hX hbl hbA hS (lwIn 6 hj7 (by omega)) dL_law_405 ?_
      refine kRi (V1 := (wMo cI hm m1 m2 m3 m4 m5 m6 m7 m8 m9 m10 m11 m12 m13 ((fX4_nights an so sl ces kd pl N (xs ((nI j) + 1).toNatClampNeg) (xs ((nI j) + 2).toNatClampNeg) (xs ((nI j) + 3).toNatClampNeg) (xs ((nI j) + 4).toNatClampNeg) (xs ((nI j) + 5).toNatClampNeg) (xs ((nI j) + 6).toNatClampNeg)).2) tr an pn gr ax ra rp rg rd so sl ces kd pl wt xk xp xw wo su ask shw)) hPW hPV hD hS rfl (va_runV (As := [.int (xs ((nI j) + 1).toNatClampNeg), .int (xs ((nI j) + 2).toNatClampNeg), .int (xs ((nI j) + 3).toNatClampNeg), .int (xs ((nI j) + 4).toNatClampNeg), .int (xs ((nI j) + 5).toNatClampNeg), .int (xs ((nI j) + 6).toNatClampNeg)]) (rest := [.int ((fX4_nights an so sl ces kd pl N (xs ((nI j) + 1).toNatClampNeg) (xs ((nI j) + 2).toNatClampNeg) (xs ((nI j) + 3).toNatClampNeg) (xs ((nI j) + 4).toNatClampNeg) (xs ((nI j) + 5).toNatClampNeg) (xs ((nI j) + 6).toNatClampNeg)).1)]) ⟨hx, hb, hml, hown, hts⟩ (c_X4_nights l D cI cS hm m1 m2 m3 m4 m5 m6 m7 m8 m9 m10 m11 m12 m13 lf tr an pn gr ax ra rp rg rd so sl ces kd pl wt xk xp xw wo su ask shw N (xs ((nI j) + 1).toNatClampNeg) (xs ((nI j) + 2).toNatClampNeg) (xs ((nI j) + 3).toNatClampNeg) (xs ((nI j) + 4).toNatClampNeg) (xs ((nI j) + 5).toNatClampNeg) (xs ((nI j) + 6).toNatClampNeg) (cw_ha hC) (cw_hN hC) (cw_hsl hC)) (cwV 6 hts gL_law_X4_nights rfl rfl rfl q_X4_nights ⟨Nat.le_of_ble_eq_true rfl, Nat.le_of_ble_eq_true rfl⟩) ⟨kBD_blind, va_recv hK.1 hPV (ci := 4) (q0 := 0) rfl rfl, kBD_of hK hPV (kD_right hD) (.ref hm :: [.int (xs ((nI j) + 1).toNatClampNeg), .int (xs ((nI j) + 2).toNatClampNeg), .int (xs ((nI j) + 3).toNatClampNeg), .int (xs ((nI j) + 4).toNatClampNeg), .int (xs ((nI j) + 5).toNatClampNeg), .int (xs ((nI j) + 6).toNatClampNeg)])⟩ rfl rfl hl.1 rfl (lv_room (Nat.le_of_ble_eq_true rfl)) dL_law_406 ⟨Nat.le_refl _, Nat.le_refl _⟩) (fun H locs hPW hPV hD hS => ?_)
      refine lv_icmp_eq (tgt := 1066) hx hb dL_law_409 (by decide) (fun c9 => ?_) (fun c9 => absurd rfl c9)
      obtain ⟨N2, P2, R2, hC2⟩ := hC2
      refine lv_iinc (v := nI (j + 7)) (lv' := [(3, .int (nI (j + 7))), (0, .ref b), (1, .ref h1), (2, .ref hm)]) hx hb dL_law_1066 hl (k := 3) rfl (nI_add j 7) (by decide) rfl (fun ls hl => ?_)
      refine lv_goto (tgt := 18) hx hb dL_law_1069 (by decide) ?_
      exact ih0 (j + 7) hj7 (by omega) _ _ _ _ _ _ _ _ _ _ _ _ _ _ _ _ _ _ _ _ _ _ _ _ _ _ _ _ _ _ _ _ _ _ _ _ _ _ _ _ _ _ hC2 _ _ hPW hPV hD hS ls (lv_sub hl [1, 2, 3, 0] rfl)
    by_cases c33_6 : z9 = 6
    · skip
      refine lv_tableIn (tgt := 414) (off := 381) hx hb dL_law_33 (by rw [c33_6]; decide) (by rw [c33_6]; decide) (by rw [c33_6]; decide) (by decide) ?_
      refine lv_aload_n hx hb dL_law_414 rfl (lv_at hl 1 rfl) ?_
      refine lv_aload_n hx hb dL_law_415 rfl (lv_at hl 0 rfl) ?_
      refine lv_iload_n hx hb dL_law_416 rfl (lv_at hl 3 rfl) ?_
      refine lv_iconst (v := 1) hx hb dL_law_417 (by decide) ?_
      refine lv_iadd hx hb dL_law_418 ?_
      refine va_sld hx hb hX hbl hbA hS (lwIn 1 hj7 (by omega)) dL_law_419 ?_
      refine kLi hPW hPV hD hS (va_runV (As := [.int (xs ((nI j) + 1).toNatClampNeg)]) (rest := []) ⟨hx, hb, hml, hown, hts⟩ (L_worst l D cI cS hC (wo := wo) (su := su) (xk := xk) (xp := xp) (xw := xw) (ax := ax) (ra := ra) (rp := rp) (rg := rg) (xs ((nI j) + 1).toNatClampNeg)) (cwV 1 hts gL_law_X3_worst rfl rfl rfl q_X3_worst ⟨Nat.le_of_ble_eq_true rfl, Nat.le_of_ble_eq_true rfl⟩) ⟨kBD_blind, cw_recv hK hC hPW, kBD_of hK hPW (kD_left hD) (.ref h1 :: [.int (xs ((nI j) + 1).toNatClampNeg)])⟩ rfl rfl hl.1 rfl (lv_room (Nat.le_of_ble_eq_true rfl)) dL_law_420 ⟨Nat.le_refl _, Nat.le_refl _⟩) (fun Xv H locs hC2 hPW hPV hD hS hfst => ?_)
      refine lv_aload_n hx hb dL_law_423 rfl (lv_at hl 2 rfl) ?_
      refine lv_aload_n hx hb dL_law_424 rfl (lv_at hl 0 rfl) ?_
      refine lv_iload_n hx hb dL_law_425 rfl (lv_at hl 3 rfl) ?_
      refine lv_iconst (v := 1) hx hb dL_law_426 (by decide) ?_
      refine lv_iadd hx hb dL_law_427 ?_
      refine va_sld hx hb hX hbl hbA hS (lwIn 1 hj7 (by omega)) dL_law_428 ?_
      refine kRi (V1 := (wMo cI hm m1 m2 m3 m4 m5 m6 m7 m8 m9 m10 m11 m12 m13 lf tr an pn gr ax ra rp rg rd so sl ces kd pl wt xk xp xw ((fX4_worst an kd pl wo su N (xs ((nI j) + 1).toNatClampNeg)).2.1) ((fX4_worst an kd pl wo su N (xs ((nI j) + 1).toNatClampNeg)).2.2) ask shw)) hPW hPV hD hS rfl (va_runV (As := [.int (xs ((nI j) + 1).toNatClampNeg)]) (rest := [.int ((fX4_worst an kd pl wo su N (xs ((nI j) + 1).toNatClampNeg)).1)]) ⟨hx, hb, hml, hown, hts⟩ (c_X4_worst l D cI cS hm m1 m2 m3 m4 m5 m6 m7 m8 m9 m10 m11 m12 m13 lf tr an pn gr ax ra rp rg rd so sl ces kd pl wt xk xp xw wo su ask shw N (xs ((nI j) + 1).toNatClampNeg) (cw_ha hC) (cw_hN hC)) (cwV 1 hts gL_law_X4_worst rfl rfl rfl q_X4_worst ⟨Nat.le_of_ble_eq_true rfl, Nat.le_of_ble_eq_true rfl⟩) ⟨kBD_blind, va_recv hK.1 hPV (ci := 4) (q0 := 0) rfl rfl, kBD_of hK hPV (kD_right hD) (.ref hm :: [.int (xs ((nI j) + 1).toNatClampNeg)])⟩ rfl rfl hl.1 rfl (lv_room (Nat.le_of_ble_eq_true rfl)) dL_law_429 ⟨Nat.le_refl _, Nat.le_refl _⟩) (fun H locs hPW hPV hD hS => ?_)
      refine lv_icmp_eq (tgt := 1066) hx hb dL_law_432 (by decide) (fun c9 => ?_) (fun c9 => absurd rfl c9)
      obtain ⟨N2, P2, R2, hC2⟩ := hC2
      refine lv_iinc (v := nI (j + 7)) (lv' := [(3, .int (nI (j + 7))), (0, .ref b), (1, .ref h1), (2, .ref hm)]) hx hb dL_law_1066 hl (k := 3) rfl (nI_add j 7) (by decide) rfl (fun ls hl => ?_)
      refine lv_goto (tgt := 18) hx hb dL_law_1069 (by decide) ?_
      exact ih0 (j + 7) hj7 (by omega) _ _ _ _ _ _ _ _ _ _ _ _ _ _ _ _ _ _ _ _ _ _ _ _ _ _ _ _ _ _ _ _ _ _ _ _ _ _ _ _ _ _ hC2 _ _ hPW hPV hD hS ls (lv_sub hl [1, 2, 3, 0] rfl)
    by_cases c33_7 : z9 = 7
    · skip
      refine lv_tableIn (tgt := 437) (off := 404) hx hb dL_law_33 (by rw [c33_7]; decide) (by rw [c33_7]; decide) (by rw [c33_7]; decide) (by decide) ?_
      refine lv_aload_n hx hb dL_law_437 rfl (lv_at hl 1 rfl) ?_
      refine lv_aload_n hx hb dL_law_438 rfl (lv_at hl 0 rfl) ?_
      refine lv_iload_n hx hb dL_law_439 rfl (lv_at hl 3 rfl) ?_
      refine lv_iconst (v := 1) hx hb dL_law_440 (by decide) ?_
      refine lv_iadd hx hb dL_law_441 ?_
      refine va_sld hx hb hX hbl hbA hS (lwIn 1 hj7 (by omega)) dL_law_442 ?_
      refine kLi hPW hPV hD hS (va_runV (As := [.int (xs ((nI j) + 1).toNatClampNeg)]) (rest := []) ⟨hx, hb, hml, hown, hts⟩ (L_ask l D cI cS hC (wo := wo) (su := su) (xk := xk) (xp := xp) (xw := xw) (ax := ax) (ra := ra) (rp := rp) (rg := rg) (xs ((nI j) + 1).toNatClampNeg)) (cwV 1 hts gL_law_X3_ask rfl rfl rfl q_X3_ask ⟨Nat.le_of_ble_eq_true rfl, Nat.le_of_ble_eq_true rfl⟩) ⟨kBD_blind, cw_recv hK hC hPW, kBD_of hK hPW (kD_left hD) (.ref h1 :: [.int (xs ((nI j) + 1).toNatClampNeg)])⟩ rfl rfl hl.1 rfl (lv_room (Nat.le_of_ble_eq_true rfl)) dL_law_443 ⟨Nat.le_refl _, Nat.le_refl _⟩) (fun Xv H locs hC2 hPW hPV hD hS hfst => ?_)
      refine lv_aload_n hx hb dL_law_446 rfl (lv_at hl 2 rfl) ?_
      refine lv_aload_n hx hb dL_law_447 rfl (lv_at hl 0 rfl) ?_
      refine lv_iload_n hx hb dL_law_448 rfl (lv_at hl 3 rfl) ?_
      refine lv_iconst (v := 1) hx hb dL_law_449 (by decide) ?_
      refine lv_iadd hx hb dL_law_450 ?_
      refine va_sld hx hb hX hbl hbA hS (lwIn 1 hj7 (by omega)) dL_law_451 ?_
      refine kRi (V1 := (wMo cI hm m1 m2 m3 m4 m5 m6 m7 m8 m9 m10 m11 m12 m13 lf tr an pn gr ax ra rp rg rd so sl ces kd pl wt xk xp xw ((fX4_ask an kd pl wo su N (xs ((nI j) + 1).toNatClampNeg)).2.1) ((fX4_ask an kd pl wo su N (xs ((nI j) + 1).toNatClampNeg)).2.2) ask shw)) hPW hPV hD hS rfl (va_runV (As := [.int (xs ((nI j) + 1).toNatClampNeg)]) (rest := [.int ((fX4_ask an kd pl wo su N (xs ((nI j) + 1).toNatClampNeg)).1)]) ⟨hx, hb, hml, hown, hts⟩ (c_X4_ask l D cI cS hm m1 m2 m3 m4 m5 m6 m7 m8 m9 m10 m11 m12 m13 lf tr an pn gr ax ra rp rg rd so sl ces kd pl wt xk xp xw wo su ask shw N (xs ((nI j) + 1).toNatClampNeg) (cw_ha hC) (cw_hN hC)) (cwV 1 hts gL_law_X4_ask rfl rfl rfl q_X4_ask ⟨Nat.le_of_ble_eq_true rfl, Nat.le_of_ble_eq_true rfl⟩) ⟨kBD_blind, va_recv hK.1 hPV (ci := 4) (q0 := 0) rfl rfl, kBD_of hK hPV (kD_right hD) (.ref hm :: [.int (xs ((nI j) + 1).toNatClampNeg)])⟩ rfl rfl hl.1 rfl (lv_room (Nat.le_of_ble_eq_true rfl)) dL_law_452 ⟨Nat.le_refl _, Nat.le_refl _⟩) (fun H locs hPW hPV hD hS => ?_)
      refine lv_icmp_eq (tgt := 1066) hx hb dL_law_455 (by decide) (fun c9 => ?_) (fun c9 => absurd rfl c9)
      obtain ⟨N2, P2, R2, hC2⟩ := hC2
      refine lv_iinc (v := nI (j + 7)) (lv' := [(3, .int (nI (j + 7))), (0, .ref b), (1, .ref h1), (2, .ref hm)]) hx hb dL_law_1066 hl (k := 3) rfl (nI_add j 7) (by decide) rfl (fun ls hl => ?_)
      refine lv_goto (tgt := 18) hx hb dL_law_1069 (by decide) ?_
      exact ih0 (j + 7) hj7 (by omega) _ _ _ _ _ _ _ _ _ _ _ _ _ _ _ _ _ _ _ _ _ _ _ _ _ _ _ _ _ _ _ _ _ _ _ _ _ _ _ _ _ _ hC2 _ _ hPW hPV hD hS ls (lv_sub hl [1, 2, 3, 0] rfl)
    by_cases c33_8 : z9 = 8
    · skip
      refine lv_tableIn (tgt := 460) (off := 427) hx hb dL_law_33 (by rw [c33_8]; decide) (by rw [c33_8]; decide) (by rw [c33_8]; decide) (by decide) ?_
      refine lv_aload_n hx hb dL_law_460 rfl (lv_at hl 1 rfl) ?_
      refine lv_aload_n hx hb dL_law_461 rfl (lv_at hl 0 rfl) ?_
      refine lv_iload_n hx hb dL_law_462 rfl (lv_at hl 3 rfl) ?_
      refine lv_iconst (v := 1) hx hb dL_law_463 (by decide) ?_
      refine lv_iadd hx hb dL_law_464 ?_
      refine va_sld hx hb hX hbl hbA hS (lwIn 1 hj7 (by omega)) dL_law_465 ?_
      refine lv_aload_n hx hb dL_law_466 rfl (lv_at hl 0 rfl) ?_
      refine lv_iload_n hx hb dL_law_467 rfl (lv_at hl 3 rfl) ?_
      refine lv_iconst (v := 2) hx hb dL_law_468 (by decide) ?_
      refine lv_iadd hx hb dL_law_469 ?_
      refine va_sld hx hb hX hbl hbA hS (lwIn 2 hj7 (by omega)) dL_law_470 ?_
      refine kLl hPW hPV hD hS (va_runV (As := [.int (xs ((nI j) + 1).toNatClampNeg), .int (xs ((nI j) + 2).toNatClampNeg)]) (rest := []) ⟨hx, hb, hml, hown, hts⟩ (L_mean l D cI cS hC (wo := wo) (su := su) (xk := xk) (xp := xp) (xw := xw) (ax := ax) (ra := ra) (rp := rp) (rg := rg) (xs ((nI j) + 1).toNatClampNeg) (xs ((nI j) + 2).toNatClampNeg)) (cwV 2 hts gL_law_X3_mean rfl rfl rfl q_X3_mean ⟨Nat.le_of_ble_eq_true rfl, Nat.le_of_ble_eq_true rfl⟩) ⟨kBD_blind, cw_recv hK hC hPW, kBD_of hK hPW (kD_left hD) (.ref h1 :: [.int (xs ((nI j) + 1).toNatClampNeg), .int (xs ((nI j) + 2).toNatClampNeg)])⟩ rfl rfl hl.1 rfl (lv_room (Nat.le_of_ble_eq_true rfl)) dL_law_471 ⟨Nat.le_refl _, Nat.le_refl _⟩) (fun Xv H locs hC2 hPW hPV hD hS hfst => ?_)
      refine lv_aload_n hx hb dL_law_474 rfl (lv_at hl 2 rfl) ?_
      refine lv_aload_n hx hb dL_law_475 rfl (lv_at hl 0 rfl) ?_
      refine lv_iload_n hx hb dL_law_476 rfl (lv_at hl 3 rfl) ?_
      refine lv_iconst (v := 1) hx hb dL_law_477 (by decide) ?_
      refine lv_iadd hx hb dL_law_478 ?_
      refine va_sld hx hb hX hbl hbA hS (lwIn 1 hj7 (by omega)) dL_law_479 ?_
      refine lv_aload_n hx hb dL_law_480 rfl (lv_at hl 0 rfl) ?_
      refine lv_iload_n hx hb dL_law_481 rfl (lv_at hl 3 rfl) ?_
      refine lv_iconst (v := 2) hx hb dL_law_482 (by decide) ?_
      refine lv_iadd hx hb dL_law_483 ?_
      refine va_sld hx hb hX hbl hbA hS (lwIn 2 hj7 (by omega)) dL_law_484 ?_
      refine kRl (V1 := (wMo cI hm m1 m2 m3 m4 m5 m6 m7 m8 m9 m10 m11 m12 m13 lf tr an pn gr ax ra rp rg rd so sl ces kd pl wt xk xp xw ((fX4_mean an kd pl wo su N (((fX4_findWorst kd pl wo su N (xs ((nI j) + 1).toNatClampNeg).toNatClampNeg).2 (xs ((nI j) + 1).toNatClampNeg).toNatClampNeg).toNatClampNeg) ((fX4_size (xs ((nI j) + 1).toNatClampNeg).toNatClampNeg).toNatClampNeg) (xs ((nI j) + 1).toNatClampNeg) (xs ((nI j) + 2).toNatClampNeg)).2.1) ((fX4_mean an kd pl wo su N (((fX4_findWorst kd pl wo su N (xs ((nI j) + 1).toNatClampNeg).toNatClampNeg).2 (xs ((nI j) + 1).toNatClampNeg).toNatClampNeg).toNatClampNeg) ((fX4_size (xs ((nI j) + 1).toNatClampNeg).toNatClampNeg).toNatClampNeg) (xs ((nI j) + 1).toNatClampNeg) (xs ((nI j) + 2).toNatClampNeg)).2.2) ask shw)) hPW hPV hD hS rfl (va_runV (As := [.int (xs ((nI j) + 1).toNatClampNeg), .int (xs ((nI j) + 2).toNatClampNeg)]) (rest := [.long ((fX4_mean an kd pl wo su N (((fX4_findWorst kd pl wo su N (xs ((nI j) + 1).toNatClampNeg).toNatClampNeg).2 (xs ((nI j) + 1).toNatClampNeg).toNatClampNeg).toNatClampNeg) ((fX4_size (xs ((nI j) + 1).toNatClampNeg).toNatClampNeg).toNatClampNeg) (xs ((nI j) + 1).toNatClampNeg) (xs ((nI j) + 2).toNatClampNeg)).1)]) ⟨hx, hb, hml, hown, hts⟩ (c_X4_mean l D cI cS hm m1 m2 m3 m4 m5 m6 m7 m8 m9 m10 m11 m12 m13 lf tr an pn gr ax ra rp rg rd so sl ces kd pl wt xk xp xw wo su ask shw N (((fX4_findWorst kd pl wo su N (xs ((nI j) + 1).toNatClampNeg).toNatClampNeg).2 (xs ((nI j) + 1).toNatClampNeg).toNatClampNeg).toNatClampNeg) ((fX4_size (xs ((nI j) + 1).toNatClampNeg).toNatClampNeg).toNatClampNeg) (xs ((nI j) + 1).toNatClampNeg) (xs ((nI j) + 2).toNatClampNeg) (cw_ha hC) (cw_hN hC) (mean_q hC) (nat_lt _) (mean_z (cw_ha hC) (cw_hN hC)) (nat_lt _)) (cwV 2 hts gL_law_X4_mean rfl rfl rfl q_X4_mean ⟨Nat.le_of_ble_eq_true rfl, Nat.le_of_ble_eq_true rfl⟩) ⟨kBD_blind, va_recv hK.1 hPV (ci := 4) (q0 := 0) rfl rfl, kBD_of hK hPV (kD_right hD) (.ref hm :: [.int (xs ((nI j) + 1).toNatClampNeg), .int (xs ((nI j) + 2).toNatClampNeg)])⟩ rfl rfl hl.1 rfl (lv_room (Nat.le_of_ble_eq_true rfl)) dL_law_485 ⟨Nat.le_refl _, Nat.le_refl _⟩) (fun H locs hPW hPV hD hS => ?_)
      refine W.lcmp hx hb dL_law_488 ?_
      refine lv_if_eq (tgt := 1066) hx hb dL_law_489 (by decide) (fun c9 => ?_) (fun c9 => absurd (lg_self _) c9)
      obtain ⟨N2, P2, R2, hC2⟩ := hC2
      refine lv_iinc (v := nI (j + 7)) (lv' := [(3, .int (nI (j + 7))), (0, .ref b), (1, .ref h1), (2, .ref hm)]) hx hb dL_law_1066 hl (k := 3) rfl (nI_add j 7) (by decide) rfl (fun ls hl => ?_)
      refine lv_goto (tgt := 18) hx hb dL_law_1069 (by decide) ?_
      exact ih0 (j + 7) hj7 (by omega) _ _ _ _ _ _ _ _ _ _ _ _ _ _ _ _ _ _ _ _ _ _ _ _ _ _ _ _ _ _ _ _ _ _ _ _ _ _ _ _ _ _ hC2 _ _ hPW hPV hD hS ls (lv_sub hl [1, 2, 3, 0] rfl)
    by_cases c33_9 : z9 = 9
    · skip
      refine lv_tableIn (tgt := 494) (off := 461) hx hb dL_law_33 (by rw [c33_9]; decide) (by rw [c33_9]; decide) (by rw [c33_9]; decide) (by decide) ?_
      refine lv_aload_n hx hb dL_law_494 rfl (lv_at hl 1 rfl) ?_
      refine lv_aload_n hx hb dL_law_495 rfl (lv_at hl 0 rfl) ?_
      refine lv_iload_n hx hb dL_law_496 rfl (lv_at hl 3 rfl) ?_
      refine lv_iconst (v := 1) hx hb dL_law_497 (by decide) ?_
      refine lv_iadd hx hb dL_law_498 ?_
      refine va_sld hx hb hX hbl hbA hS (lwIn 1 hj7 (by omega)) dL_law_499 ?_
      refine lv_aload_n hx hb dL_law_500 rfl (lv_at hl 0 rfl) ?_
      refine lv_iload_n hx hb dL_law_501 rfl (lv_at hl 3 rfl) ?_
      refine lv_iconst (v := 2) hx hb dL_law_502 (by decide) ?_
      refine lv_iadd hx hb dL_law_503 ?_
      refine va_sld hx hb hX hbl hbA hS (lwIn 2 hj7 (by omega)) dL_law_504 ?_
      refine kLi hPW hPV hD hS (va_runV (As := [.int (xs ((nI j) + 1).toNatClampNeg), .int (xs ((nI j) + 2).toNatClampNeg)]) (rest := []) ⟨hx, hb, hml, hown, hts⟩ (L_parts l D cI cS hC (wo := wo) (su := su) (xk := xk) (xp := xp) (xw := xw) (ax := ax) (ra := ra) (rp := rp) (rg := rg) (xs ((nI j) + 1).toNatClampNeg) (xs ((nI j) + 2).toNatClampNeg)) (cwV 2 hts gL_law_X3_parts rfl rfl rfl q_X3_parts ⟨Nat.le_of_ble_eq_true rfl, Nat.le_of_ble_eq_true rfl⟩) ⟨kBD_blind, cw_recv hK hC hPW, kBD_of hK hPW (kD_left hD) (.ref h1 :: [.int (xs ((nI j) + 1).toNatClampNeg), .int (xs ((nI j) + 2).toNatClampNeg)])⟩ rfl rfl hl.1 rfl (lv_room (Nat.le_of_ble_eq_true rfl)) dL_law_505 ⟨Nat.le_refl _, Nat.le_refl _⟩) (fun Xv H locs hC2 hPW hPV hD hS hfst => ?_)
      refine lv_aload_n hx hb dL_law_508 rfl (lv_at hl 2 rfl) ?_
      refine lv_aload_n hx hb dL_law_509 rfl (lv_at hl 0 rfl) ?_
      refine lv_iload_n hx hb dL_law_510 rfl (lv_at hl 3 rfl) ?_
      refine lv_iconst (v := 1) hx hb dL_law_511 (by decide) ?_
      refine lv_iadd hx hb dL_law_512 ?_
      refine va_sld hx hb hX hbl hbA hS (lwIn 1 hj7 (by omega)) dL_law_513 ?_
      refine lv_aload_n hx hb dL_law_514 rfl (lv_at hl 0 rfl) ?_
      refine lv_iload_n hx hb dL_law_515 rfl (lv_at hl 3 rfl) ?_
      refine lv_iconst (v := 2) hx hb dL_law_516 (by decide) ?_
      refine lv_iadd hx hb dL_law_517 ?_
      refine va_sld hx hb hX hbl hbA hS (lwIn 2 hj7 (by omega)) dL_law_518 ?_
      refine kRi (V1 := (wMo cI hm m1 m2 m3 m4 m5 m6 m7 m8 m9 m10 m11 m12 m13 lf tr an pn gr ax ra rp rg rd so sl ces kd pl wt xk xp xw wo su ask shw)) hPW hPV hD hS rfl (va_runV (As := [.int (xs ((nI j) + 1).toNatClampNeg), .int (xs ((nI j) + 2).toNatClampNeg)]) (rest := [.int (fX4_parts an kd pl N (xs ((nI j) + 1).toNatClampNeg) (xs ((nI j) + 2).toNatClampNeg))]) ⟨hx, hb, hml, hown, hts⟩ (RMi.pure (c_X4_parts l D cI cS hm m1 m2 m3 m4 m5 m6 m7 m8 m9 m10 m11 m12 m13 lf tr an pn gr ax ra rp rg rd so sl ces kd pl wt xk xp xw wo su ask shw N (xs ((nI j) + 1).toNatClampNeg) (xs ((nI j) + 2).toNatClampNeg) (cw_ha hC) (cw_hN hC))) (cwV 2 hts gL_law_X4_parts rfl rfl rfl q_X4_parts ⟨Nat.le_of_ble_eq_true rfl, Nat.le_of_ble_eq_true rfl⟩) ⟨kBD_blind, va_recv hK.1 hPV (ci := 4) (q0 := 0) rfl rfl, kBD_of hK hPV (kD_right hD) (.ref hm :: [.int (xs ((nI j) + 1).toNatClampNeg), .int (xs ((nI j) + 2).toNatClampNeg)])⟩ rfl rfl hl.1 rfl (lv_room (Nat.le_of_ble_eq_true rfl)) dL_law_519 ⟨Nat.le_refl _, Nat.le_refl _⟩) (fun H locs hPW hPV hD hS => ?_)
      refine lv_icmp_eq (tgt := 1066) hx hb dL_law_522 (by decide) (fun c9 => ?_) (fun c9 => absurd rfl c9)
      obtain ⟨N2, P2, R2, hC2⟩ := hC2
      refine lv_iinc (v := nI (j + 7)) (lv' := [(3, .int (nI (j + 7))), (0, .ref b), (1, .ref h1), (2, .ref hm)]) hx hb dL_law_1066 hl (k := 3) rfl (nI_add j 7) (by decide) rfl (fun ls hl => ?_)
      refine lv_goto (tgt := 18) hx hb dL_law_1069 (by decide) ?_
      exact ih0 (j + 7) hj7 (by omega) _ _ _ _ _ _ _ _ _ _ _ _ _ _ _ _ _ _ _ _ _ _ _ _ _ _ _ _ _ _ _ _ _ _ _ _ _ _ _ _ _ _ hC2 _ _ hPW hPV hD hS ls (lv_sub hl [1, 2, 3, 0] rfl)
    by_cases c33_10 : z9 = 10
    · skip
      refine lv_tableIn (tgt := 527) (off := 494) hx hb dL_law_33 (by rw [c33_10]; decide) (by rw [c33_10]; decide) (by rw [c33_10]; decide) (by decide) ?_
      refine lv_aload_n hx hb dL_law_527 rfl (lv_at hl 1 rfl) ?_
      refine lv_aload_n hx hb dL_law_528 rfl (lv_at hl 0 rfl) ?_
      refine lv_iload_n hx hb dL_law_529 rfl (lv_at hl 3 rfl) ?_
      refine lv_iconst (v := 1) hx hb dL_law_530 (by decide) ?_
      refine lv_iadd hx hb dL_law_531 ?_
      refine va_sld hx hb hX hbl hbA hS (lwIn 1 hj7 (by omega)) dL_law_532 ?_
      refine kLi hPW hPV hD hS (va_runV (As := [.int (xs ((nI j) + 1).toNatClampNeg)]) (rest := []) ⟨hx, hb, hml, hown, hts⟩ (L_months l D cI cS hC (wo := wo) (su := su) (xk := xk) (xp := xp) (xw := xw) (ax := ax) (ra := ra) (rp := rp) (rg := rg) (xs ((nI j) + 1).toNatClampNeg)) (cwV 1 hts gL_law_X3_months rfl rfl rfl q_X3_months ⟨Nat.le_of_ble_eq_true rfl, Nat.le_of_ble_eq_true rfl⟩) ⟨kBD_blind, cw_recv hK hC hPW, kBD_of hK hPW (kD_left hD) (.ref h1 :: [.int (xs ((nI j) + 1).toNatClampNeg)])⟩ rfl rfl hl.1 rfl (lv_room (Nat.le_of_ble_eq_true rfl)) dL_law_533 ⟨Nat.le_refl _, Nat.le_refl _⟩) (fun Xv H locs hC2 hPW hPV hD hS hfst => ?_)
      refine lv_aload_n hx hb dL_law_536 rfl (lv_at hl 2 rfl) ?_
      refine lv_aload_n hx hb dL_law_537 rfl (lv_at hl 0 rfl) ?_
      refine lv_iload_n hx hb dL_law_538 rfl (lv_at hl 3 rfl) ?_
      refine lv_iconst (v := 1) hx hb dL_law_539 (by decide) ?_
      refine lv_iadd hx hb dL_law_540 ?_
      refine va_sld hx hb hX hbl hbA hS (lwIn 1 hj7 (by omega)) dL_law_541 ?_
      refine kRi (V1 := (wMo cI hm m1 m2 m3 m4 m5 m6 m7 m8 m9 m10 m11 m12 m13 lf tr an pn gr ax ra rp rg rd so sl ces kd pl wt xk xp xw wo su ask shw)) hPW hPV hD hS rfl (va_runV (As := [.int (xs ((nI j) + 1).toNatClampNeg)]) (rest := [.int (fX4_months an pn gr wt Pn (xs ((nI j) + 1).toNatClampNeg))]) ⟨hx, hb, hml, hown, hts⟩ (RMi.pure (c_X4_months l D cI cS hm m1 m2 m3 m4 m5 m6 m7 m8 m9 m10 m11 m12 m13 lf tr an pn gr ax ra rp rg rd so sl ces kd pl wt xk xp xw wo su ask shw Pn (xs ((nI j) + 1).toNatClampNeg) (cw_hpn hC) (cw_hPn hC))) (cwV 1 hts gL_law_X4_months rfl rfl rfl q_X4_months ⟨Nat.le_of_ble_eq_true rfl, Nat.le_of_ble_eq_true rfl⟩) ⟨kBD_blind, va_recv hK.1 hPV (ci := 4) (q0 := 0) rfl rfl, kBD_of hK hPV (kD_right hD) (.ref hm :: [.int (xs ((nI j) + 1).toNatClampNeg)])⟩ rfl rfl hl.1 rfl (lv_room (Nat.le_of_ble_eq_true rfl)) dL_law_542 ⟨Nat.le_refl _, Nat.le_refl _⟩) (fun H locs hPW hPV hD hS => ?_)
      refine lv_icmp_eq (tgt := 1066) hx hb dL_law_545 (by decide) (fun c9 => ?_) (fun c9 => absurd rfl c9)
      obtain ⟨N2, P2, R2, hC2⟩ := hC2
      refine lv_iinc (v := nI (j + 7)) (lv' := [(3, .int (nI (j + 7))), (0, .ref b), (1, .ref h1), (2, .ref hm)]) hx hb dL_law_1066 hl (k := 3) rfl (nI_add j 7) (by decide) rfl (fun ls hl => ?_)
      refine lv_goto (tgt := 18) hx hb dL_law_1069 (by decide) ?_
      exact ih0 (j + 7) hj7 (by omega) _ _ _ _ _ _ _ _ _ _ _ _ _ _ _ _ _ _ _ _ _ _ _ _ _ _ _ _ _ _ _ _ _ _ _ _ _ _ _ _ _ _ hC2 _ _ hPW hPV hD hS ls (lv_sub hl [1, 2, 3, 0] rfl)
    by_cases c33_11 : z9 = 11
    · skip
      refine lv_tableIn (tgt := 550) (off := 517) hx hb dL_law_33 (by rw [c33_11]; decide) (by rw [c33_11]; decide) (by rw [c33_11]; decide) (by decide) ?_
      refine lv_aload_n hx hb dL_law_550 rfl (lv_at hl 1 rfl) ?_
      refine lv_aload_n hx hb dL_law_551 rfl (lv_at hl 0 rfl) ?_
      refine lv_iload_n hx hb dL_law_552 rfl (lv_at hl 3 rfl) ?_
      refine lv_iconst (v := 1) hx hb dL_law_553 (by decide) ?_
      refine lv_iadd hx hb dL_law_554 ?_
      refine va_sld hx hb hX hbl hbA hS (lwIn 1 hj7 (by omega)) dL_law_555 ?_
      refine kLi hPW hPV hD hS (va_runV (As := [.int (xs ((nI j) + 1).toNatClampNeg)]) (rest := []) ⟨hx, hb, hml, hown, hts⟩ (L_down l D cI cS hC (wo := wo) (su := su) (xk := xk) (xp := xp) (xw := xw) (ax := ax) (ra := ra) (rp := rp) (rg := rg) (xs ((nI j) + 1).toNatClampNeg)) (cwV 1 hts gL_law_X3_down rfl rfl rfl q_X3_down ⟨Nat.le_of_ble_eq_true rfl, Nat.le_of_ble_eq_true rfl⟩) ⟨kBD_blind, cw_recv hK hC hPW, kBD_of hK hPW (kD_left hD) (.ref h1 :: [.int (xs ((nI j) + 1).toNatClampNeg)])⟩ rfl rfl hl.1 rfl (lv_room (Nat.le_of_ble_eq_true rfl)) dL_law_556 ⟨Nat.le_refl _, Nat.le_refl _⟩) (fun Xv H locs hC2 hPW hPV hD hS hfst => ?_)
      refine lv_aload_n hx hb dL_law_559 rfl (lv_at hl 2 rfl) ?_
      refine lv_aload_n hx hb dL_law_560 rfl (lv_at hl 0 rfl) ?_
      refine lv_iload_n hx hb dL_law_561 rfl (lv_at hl 3 rfl) ?_
      refine lv_iconst (v := 1) hx hb dL_law_562 (by decide) ?_
      refine lv_iadd hx hb dL_law_563 ?_
      refine va_sld hx hb hX hbl hbA hS (lwIn 1 hj7 (by omega)) dL_law_564 ?_
      refine kRi (V1 := (wMo cI hm m1 m2 m3 m4 m5 m6 m7 m8 m9 m10 m11 m12 m13 lf tr an pn gr ax ra rp rg rd so sl ces kd pl wt xk xp xw wo su ask shw)) hPW hPV hD hS rfl (va_runV (As := [.int (xs ((nI j) + 1).toNatClampNeg)]) (rest := [.int (fX4_down an gr wt Pn (xs ((nI j) + 1).toNatClampNeg))]) ⟨hx, hb, hml, hown, hts⟩ (RMi.pure (c_X4_down l D cI cS hm m1 m2 m3 m4 m5 m6 m7 m8 m9 m10 m11 m12 m13 lf tr an pn gr ax ra rp rg rd so sl ces kd pl wt xk xp xw wo su ask shw Pn (xs ((nI j) + 1).toNatClampNeg) (cw_hpn hC) (cw_hPn hC))) (cwV 1 hts gL_law_X4_down rfl rfl rfl q_X4_down ⟨Nat.le_of_ble_eq_true rfl, Nat.le_of_ble_eq_true rfl⟩) ⟨kBD_blind, va_recv hK.1 hPV (ci := 4) (q0 := 0) rfl rfl, kBD_of hK hPV (kD_right hD) (.ref hm :: [.int (xs ((nI j) + 1).toNatClampNeg)])⟩ rfl rfl hl.1 rfl (lv_room (Nat.le_of_ble_eq_true rfl)) dL_law_565 ⟨Nat.le_refl _, Nat.le_refl _⟩) (fun H locs hPW hPV hD hS => ?_)
      refine lv_icmp_eq (tgt := 1066) hx hb dL_law_568 (by decide) (fun c9 => ?_) (fun c9 => absurd rfl c9)
      obtain ⟨N2, P2, R2, hC2⟩ := hC2
      refine lv_iinc (v := nI (j + 7)) (lv' := [(3, .int (nI (j + 7))), (0, .ref b), (1, .ref h1), (2, .ref hm)]) hx hb dL_law_1066 hl (k := 3) rfl (nI_add j 7) (by decide) rfl (fun ls hl => ?_)
      refine lv_goto (tgt := 18) hx hb dL_law_1069 (by decide) ?_
      exact ih0 (j + 7) hj7 (by omega) _ _ _ _ _ _ _ _ _ _ _ _ _ _ _ _ _ _ _ _ _ _ _ _ _ _ _ _ _ _ _ _ _ _ _ _ _ _ _ _ _ _ hC2 _ _ hPW hPV hD hS ls (lv_sub hl [1, 2, 3, 0] rfl)
    by_cases c33_12 : z9 = 12
    · skip
      refine lv_tableIn (tgt := 573) (off := 540) hx hb dL_law_33 (by rw [c33_12]; decide) (by rw [c33_12]; decide) (by rw [c33_12]; decide) (by decide) ?_
      refine lv_aload_n hx hb dL_law_573 rfl (lv_at hl 1 rfl) ?_
      refine lv_aload_n hx hb dL_law_574 rfl (lv_at hl 0 rfl) ?_
      refine lv_iload_n hx hb dL_law_575 rfl (lv_at hl 3 rfl) ?_
      refine lv_iconst (v := 1) hx hb dL_law_576 (by decide) ?_
      refine lv_iadd hx hb dL_law_577 ?_
      refine va_sld hx hb hX hbl hbA hS (lwIn 1 hj7 (by omega)) dL_law_578 ?_
      refine lv_aload_n hx hb dL_law_579 rfl (lv_at hl 0 rfl) ?_
      refine lv_iload_n hx hb dL_law_580 rfl (lv_at hl 3 rfl) ?_
      refine lv_iconst (v := 2) hx hb dL_law_581 (by decide) ?_
      refine lv_iadd hx hb dL_law_582 ?_
      refine va_sld hx hb hX hbl hbA hS (lwIn 2 hj7 (by omega)) dL_law_583 ?_
      refine kLi hPW hPV hD hS (va_runV (As := [.int (xs ((nI j) + 1).toNatClampNeg), .int (xs ((nI j) + 2).toNatClampNeg)]) (rest := []) ⟨hx, hb, hml, hown, hts⟩ (L_reading l D cI cS hC (wo := wo) (su := su) (xk := xk) (xp := xp) (xw := xw) (ax := ax) (ra := ra) (rp := rp) (rg := rg) (xs ((nI j) + 1).toNatClampNeg) (xs ((nI j) + 2).toNatClampNeg)) (cwV 2 hts gL_law_X3_reading rfl rfl rfl q_X3_reading ⟨Nat.le_of_ble_eq_true rfl, Nat.le_of_ble_eq_true rfl⟩) ⟨kBD_blind, cw_recv hK hC hPW, kBD_of hK hPW (kD_left hD) (.ref h1 :: [.int (xs ((nI j) + 1).toNatClampNeg), .int (xs ((nI j) + 2).toNatClampNeg)])⟩ rfl rfl hl.1 rfl (lv_room (Nat.le_of_ble_eq_true rfl)) dL_law_584 ⟨Nat.le_refl _, Nat.le_refl _⟩) (fun Xv H locs hC2 hPW hPV hD hS hfst => ?_)
      refine lv_aload_n hx hb dL_law_587 rfl (lv_at hl 2 rfl) ?_
      refine lv_aload_n hx hb dL_law_588 rfl (lv_at hl 0 rfl) ?_
      refine lv_iload_n hx hb dL_law_589 rfl (lv_at hl 3 rfl) ?_
      refine lv_iconst (v := 1) hx hb dL_law_590 (by decide) ?_
      refine lv_iadd hx hb dL_law_591 ?_
      refine va_sld hx hb hX hbl hbA hS (lwIn 1 hj7 (by omega)) dL_law_592 ?_
      refine lv_aload_n hx hb dL_law_593 rfl (lv_at hl 0 rfl) ?_
      refine lv_iload_n hx hb dL_law_594 rfl (lv_at hl 3 rfl) ?_
      refine lv_iconst (v := 2) hx hb dL_law_595 (by decide) ?_
      refine lv_iadd hx hb dL_law_596 ?_
      refine va_sld hx hb hX hbl hbA hS (lwIn 2 hj7 (by omega)) dL_law_597 ?_
      refine kRi (V1 := (wMo cI hm m1 m2 m3 m4 m5 m6 m7 m8 m9 m10 m11 m12 m13 lf tr an pn gr ax ra rp rg ((fX4_reading an rd ask shw (xs ((nI j) + 1).toNatClampNeg) (xs ((nI j) + 2).toNatClampNeg)).2.1) so sl ces kd pl wt xk xp xw wo su ((fX4_reading an rd ask shw (xs ((nI j) + 1).toNatClampNeg) (xs ((nI j) + 2).toNatClampNeg)).2.2.1) ((fX4_reading an rd ask shw (xs ((nI j) + 1).toNatClampNeg) (xs ((nI j) + 2).toNatClampNeg)).2.2.2))) hPW hPV hD hS rfl (va_runV (As := [.int (xs ((nI j) + 1).toNatClampNeg), .int (xs ((nI j) + 2).toNatClampNeg)]) (rest := [.int ((fX4_reading an rd ask shw (xs ((nI j) + 1).toNatClampNeg) (xs ((nI j) + 2).toNatClampNeg)).1)]) ⟨hx, hb, hml, hown, hts⟩ (c_X4_reading l D cI cS hm m1 m2 m3 m4 m5 m6 m7 m8 m9 m10 m11 m12 m13 lf tr an pn gr ax ra rp rg rd so sl ces kd pl wt xk xp xw wo su ask shw Rn (xs ((nI j) + 1).toNatClampNeg) (xs ((nI j) + 2).toNatClampNeg) (cw_hrd hC) (cw_hRn hC)) (cwV 2 hts gL_law_X4_reading rfl rfl rfl q_X4_reading ⟨Nat.le_of_ble_eq_true rfl, Nat.le_of_ble_eq_true rfl⟩) ⟨kBD_blind, va_recv hK.1 hPV (ci := 4) (q0 := 0) rfl rfl, kBD_of hK hPV (kD_right hD) (.ref hm :: [.int (xs ((nI j) + 1).toNatClampNeg), .int (xs ((nI j) + 2).toNatClampNeg)])⟩ rfl rfl hl.1 rfl (lv_room (Nat.le_of_ble_eq_true rfl)) dL_law_598 ⟨Nat.le_refl _, Nat.le_refl _⟩) (fun H locs hPW hPV hD hS => ?_)
      refine lv_icmp_eq (tgt := 1066) hx hb dL_law_601 (by decide) (fun c9 => ?_) (fun c9 => absurd rfl c9)
      obtain ⟨N2, P2, R2, hC2⟩ := hC2
      refine lv_iinc (v := nI (j + 7)) (lv' := [(3, .int (nI (j + 7))), (0, .ref b), (1, .ref h1), (2, .ref hm)]) hx hb dL_law_1066 hl (k := 3) rfl (nI_add j 7) (by decide) rfl (fun ls hl => ?_)
      refine lv_goto (tgt := 18) hx hb dL_law_1069 (by decide) ?_
      exact ih0 (j + 7) hj7 (by omega) _ _ _ _ _ _ _ _ _ _ _ _ _ _ _ _ _ _ _ _ _ _ _ _ _ _ _ _ _ _ _ _ _ _ _ _ _ _ _ _ _ _ hC2 _ _ hPW hPV hD hS ls (lv_sub hl [1, 2, 3, 0] rfl)
    by_cases c33_13 : z9 = 13
    · skip
      refine lv_tableIn (tgt := 606) (off := 573) hx hb dL_law_33 (by rw [c33_13]; decide) (by rw [c33_13]; decide) (by rw [c33_13]; decide) (by decide) ?_
      refine lv_aload_n hx hb dL_law_606 rfl (lv_at hl 1 rfl) ?_
      refine lv_aload_n hx hb dL_law_607 rfl (lv_at hl 0 rfl) ?_
      refine lv_iload_n hx hb dL_law_608 rfl (lv_at hl 3 rfl) ?_
      refine lv_iconst (v := 1) hx hb dL_law_609 (by decide) ?_
      refine lv_iadd hx hb dL_law_610 ?_
      refine va_sld hx hb hX hbl hbA hS (lwIn 1 hj7 (by omega)) dL_law_611 ?_
      refine kLi hPW hPV hD hS (va_runV (As := [.int (xs ((nI j) + 1).toNatClampNeg)]) (rest := []) ⟨hx, hb, hml, hown, hts⟩ (L_back l D cI cS hC (wo := wo) (su := su) (xk := xk) (xp := xp) (xw := xw) (ax := ax) (ra := ra) (rp := rp) (rg := rg) (xs ((nI j) + 1).toNatClampNeg)) (cwV 1 hts gL_law_X3_back rfl rfl rfl q_X3_back ⟨Nat.le_of_ble_eq_true rfl, Nat.le_of_ble_eq_true rfl⟩) ⟨kBD_blind, cw_recv hK hC hPW, kBD_of hK hPW (kD_left hD) (.ref h1 :: [.int (xs ((nI j) + 1).toNatClampNeg)])⟩ rfl rfl hl.1 rfl (lv_room (Nat.le_of_ble_eq_true rfl)) dL_law_612 ⟨Nat.le_refl _, Nat.le_refl _⟩) (fun Xv H locs hC2 hPW hPV hD hS hfst => ?_)
      refine lv_aload_n hx hb dL_law_615 rfl (lv_at hl 2 rfl) ?_
      refine lv_aload_n hx hb dL_law_616 rfl (lv_at hl 0 rfl) ?_
      refine lv_iload_n hx hb dL_law_617 rfl (lv_at hl 3 rfl) ?_
      refine lv_iconst (v := 1) hx hb dL_law_618 (by decide) ?_
      refine lv_iadd hx hb dL_law_619 ?_
      refine va_sld hx hb hX hbl hbA hS (lwIn 1 hj7 (by omega)) dL_law_620 ?_
      refine kRi (V1 := (wMo cI hm m1 m2 m3 m4 m5 m6 m7 m8 m9 m10 m11 m12 m13 lf tr an pn gr ax ra rp rg ((fX4_back rd (xs ((nI j) + 1).toNatClampNeg)).2) so sl ces kd pl wt xk xp xw wo su ask shw)) hPW hPV hD hS rfl (va_runV (As := [.int (xs ((nI j) + 1).toNatClampNeg)]) (rest := [.int ((fX4_back rd (xs ((nI j) + 1).toNatClampNeg)).1)]) ⟨hx, hb, hml, hown, hts⟩ (c_X4_back l D cI cS hm m1 m2 m3 m4 m5 m6 m7 m8 m9 m10 m11 m12 m13 lf tr an pn gr ax ra rp rg rd so sl ces kd pl wt xk xp xw wo su ask shw (xs ((nI j) + 1).toNatClampNeg)) (cwV 1 hts gL_law_X4_back rfl rfl rfl q_X4_back ⟨Nat.le_of_ble_eq_true rfl, Nat.le_of_ble_eq_true rfl⟩) ⟨kBD_blind, va_recv hK.1 hPV (ci := 4) (q0 := 0) rfl rfl, kBD_of hK hPV (kD_right hD) (.ref hm :: [.int (xs ((nI j) + 1).toNatClampNeg)])⟩ rfl rfl hl.1 rfl (lv_room (Nat.le_of_ble_eq_true rfl)) dL_law_621 ⟨Nat.le_refl _, Nat.le_refl _⟩) (fun H locs hPW hPV hD hS => ?_)
      refine lv_icmp_eq (tgt := 1066) hx hb dL_law_624 (by decide) (fun c9 => ?_) (fun c9 => absurd rfl c9)
      obtain ⟨N2, P2, R2, hC2⟩ := hC2
      refine lv_iinc (v := nI (j + 7)) (lv' := [(3, .int (nI (j + 7))), (0, .ref b), (1, .ref h1), (2, .ref hm)]) hx hb dL_law_1066 hl (k := 3) rfl (nI_add j 7) (by decide) rfl (fun ls hl => ?_)
      refine lv_goto (tgt := 18) hx hb dL_law_1069 (by decide) ?_
      exact ih0 (j + 7) hj7 (by omega) _ _ _ _ _ _ _ _ _ _ _ _ _ _ _ _ _ _ _ _ _ _ _ _ _ _ _ _ _ _ _ _ _ _ _ _ _ _ _ _ _ _ hC2 _ _ hPW hPV hD hS ls (lv_sub hl [1, 2, 3, 0] rfl)
    by_cases c33_14 : z9 = 14
    · skip
      refine lv_tableIn (tgt := 629) (off := 596) hx hb dL_law_33 (by rw [c33_14]; decide) (by rw [c33_14]; decide) (by rw [c33_14]; decide) (by decide) ?_
      refine lv_aload_n hx hb dL_law_629 rfl (lv_at hl 1 rfl) ?_
      refine kLi hPW hPV hD hS (va_runV (As := []) (rest := []) ⟨hx, hb, hml, hown, hts⟩ (L_left l D cI cS hC (wo := wo) (su := su) (xk := xk) (xp := xp) (xw := xw) (ax := ax) (ra := ra) (rp := rp) (rg := rg) ) (cwV 0 hts gL_law_X3_left rfl rfl rfl q_X3_left ⟨Nat.le_of_ble_eq_true rfl, Nat.le_of_ble_eq_true rfl⟩) ⟨kBD_blind, cw_recv hK hC hPW, kBD_of hK hPW (kD_left hD) (.ref h1 :: [])⟩ rfl rfl hl.1 rfl (lv_room (Nat.le_of_ble_eq_true rfl)) dL_law_630 ⟨Nat.le_refl _, Nat.le_refl _⟩) (fun Xv H locs hC2 hPW hPV hD hS hfst => ?_)
      refine lv_aload_n hx hb dL_law_633 rfl (lv_at hl 2 rfl) ?_
      refine kRi (V1 := (wMo cI hm m1 m2 m3 m4 m5 m6 m7 m8 m9 m10 m11 m12 m13 lf tr an pn gr ax ra rp rg rd so sl ces kd pl wt xk xp xw wo su ask shw)) hPW hPV hD hS rfl (va_runV (As := []) (rest := [.int (fX4_left an kd pl ask shw N Rn)]) ⟨hx, hb, hml, hown, hts⟩ (RMi.pure (c_X4_left l D cI cS hm m1 m2 m3 m4 m5 m6 m7 m8 m9 m10 m11 m12 m13 lf tr an pn gr ax ra rp rg rd so sl ces kd pl wt xk xp xw wo su ask shw N Rn (cw_ha hC) (cw_hN hC) (cw_hrd hC) (cw_hRn hC) (cw_hask hC))) (cwV 0 hts gL_law_X4_left rfl rfl rfl q_X4_left ⟨Nat.le_of_ble_eq_true rfl, Nat.le_of_ble_eq_true rfl⟩) ⟨kBD_blind, va_recv hK.1 hPV (ci := 4) (q0 := 0) rfl rfl, kBD_of hK hPV (kD_right hD) (.ref hm :: [])⟩ rfl rfl hl.1 rfl (lv_room (Nat.le_of_ble_eq_true rfl)) dL_law_634 ⟨Nat.le_refl _, Nat.le_refl _⟩) (fun H locs hPW hPV hD hS => ?_)
      refine lv_icmp_eq (tgt := 1066) hx hb dL_law_637 (by decide) (fun c9 => ?_) (fun c9 => absurd rfl c9)
      obtain ⟨N2, P2, R2, hC2⟩ := hC2
      refine lv_iinc (v := nI (j + 7)) (lv' := [(3, .int (nI (j + 7))), (0, .ref b), (1, .ref h1), (2, .ref hm)]) hx hb dL_law_1066 hl (k := 3) rfl (nI_add j 7) (by decide) rfl (fun ls hl => ?_)
      refine lv_goto (tgt := 18) hx hb dL_law_1069 (by decide) ?_
      exact ih0 (j + 7) hj7 (by omega) _ _ _ _ _ _ _ _ _ _ _ _ _ _ _ _ _ _ _ _ _ _ _ _ _ _ _ _ _ _ _ _ _ _ _ _ _ _ _ _ _ _ hC2 _ _ hPW hPV hD hS ls (lv_sub hl [1, 2, 3, 0] rfl)
    by_cases c33_15 : z9 = 15
    · skip
      refine lv_tableIn (tgt := 642) (off := 609) hx hb dL_law_33 (by rw [c33_15]; decide) (by rw [c33_15]; decide) (by rw [c33_15]; decide) (by decide) ?_
      refine lv_aload_n hx hb dL_law_642 rfl (lv_at hl 1 rfl) ?_
      refine lv_aload_n hx hb dL_law_643 rfl (lv_at hl 0 rfl) ?_
      refine lv_iload_n hx hb dL_law_644 rfl (lv_at hl 3 rfl) ?_
      refine lv_iconst (v := 1) hx hb dL_law_645 (by decide) ?_
      refine lv_iadd hx hb dL_law_646 ?_
      refine va_sld hx hb hX hbl hbA hS (lwIn 1 hj7 (by omega)) dL_law_647 ?_
      refine kLi hPW hPV hD hS (va_runV (As := [.int (xs ((nI j) + 1).toNatClampNeg)]) (rest := []) ⟨hx, hb, hml, hown, hts⟩ (L_kinds l D cI cS hC (wo := wo) (su := su) (xk := xk) (xp := xp) (xw := xw) (ax := ax) (ra := ra) (rp := rp) (rg := rg) (xs ((nI j) + 1).toNatClampNeg)) (cwV 1 hts gL_law_X3_kinds rfl rfl rfl q_X3_kinds ⟨Nat.le_of_ble_eq_true rfl, Nat.le_of_ble_eq_true rfl⟩) ⟨kBD_blind, cw_recv hK hC hPW, kBD_of hK hPW (kD_left hD) (.ref h1 :: [.int (xs ((nI j) + 1).toNatClampNeg)])⟩ rfl rfl hl.1 rfl (lv_room (Nat.le_of_ble_eq_true rfl)) dL_law_648 ⟨Nat.le_refl _, Nat.le_refl _⟩) (fun Xv H locs hC2 hPW hPV hD hS hfst => ?_)
      refine lv_aload_n hx hb dL_law_651 rfl (lv_at hl 2 rfl) ?_
      refine lv_aload_n hx hb dL_law_652 rfl (lv_at hl 0 rfl) ?_
      refine lv_iload_n hx hb dL_law_653 rfl (lv_at hl 3 rfl) ?_
      refine lv_iconst (v := 1) hx hb dL_law_654 (by decide) ?_
      refine lv_iadd hx hb dL_law_655 ?_
      refine va_sld hx hb hX hbl hbA hS (lwIn 1 hj7 (by omega)) dL_law_656 ?_
      refine kRi (V1 := (wMo cI hm m1 m2 m3 m4 m5 m6 m7 m8 m9 m10 m11 m12 m13 lf tr an pn gr ax ra rp rg rd so sl ces ((fX4_kinds an kd pl ask shw N Rn (xs ((nI j) + 1).toNatClampNeg)).2) pl wt xk xp xw wo su ask shw)) hPW hPV hD hS rfl (va_runV (As := [.int (xs ((nI j) + 1).toNatClampNeg)]) (rest := [.int ((fX4_kinds an kd pl ask shw N Rn (xs ((nI j) + 1).toNatClampNeg)).1)]) ⟨hx, hb, hml, hown, hts⟩ (c_X4_kinds l D cI cS hm m1 m2 m3 m4 m5 m6 m7 m8 m9 m10 m11 m12 m13 lf tr an pn gr ax ra rp rg rd so sl ces kd pl wt xk xp xw wo su ask shw N Rn (xs ((nI j) + 1).toNatClampNeg) (cw_ha hC) (cw_hN hC) (cw_hrd hC) (cw_hRn hC) (cw_hask hC)) (cwV 1 hts gL_law_X4_kinds rfl rfl rfl q_X4_kinds ⟨Nat.le_of_ble_eq_true rfl, Nat.le_of_ble_eq_true rfl⟩) ⟨kBD_blind, va_recv hK.1 hPV (ci := 4) (q0 := 0) rfl rfl, kBD_of hK hPV (kD_right hD) (.ref hm :: [.int (xs ((nI j) + 1).toNatClampNeg)])⟩ rfl rfl hl.1 rfl (lv_room (Nat.le_of_ble_eq_true rfl)) dL_law_657 ⟨Nat.le_refl _, Nat.le_refl _⟩) (fun H locs hPW hPV hD hS => ?_)
      refine lv_icmp_eq (tgt := 1066) hx hb dL_law_660 (by decide) (fun c9 => ?_) (fun c9 => absurd rfl c9)
      obtain ⟨N2, P2, R2, hC2⟩ := hC2
      refine lv_iinc (v := nI (j + 7)) (lv' := [(3, .int (nI (j + 7))), (0, .ref b), (1, .ref h1), (2, .ref hm)]) hx hb dL_law_1066 hl (k := 3) rfl (nI_add j 7) (by decide) rfl (fun ls hl => ?_)
      refine lv_goto (tgt := 18) hx hb dL_law_1069 (by decide) ?_
      exact ih0 (j + 7) hj7 (by omega) _ _ _ _ _ _ _ _ _ _ _ _ _ _ _ _ _ _ _ _ _ _ _ _ _ _ _ _ _ _ _ _ _ _ _ _ _ _ _ _ _ _ hC2 _ _ hPW hPV hD hS ls (lv_sub hl [1, 2, 3, 0] rfl)
    by_cases c33_16 : z9 = 16
    · skip
      refine lv_tableIn (tgt := 665) (off := 632) hx hb dL_law_33 (by rw [c33_16]; decide) (by rw [c33_16]; decide) (by rw [c33_16]; decide) (by decide) ?_
      refine lv_aload_n hx hb dL_law_665 rfl (lv_at hl 1 rfl) ?_
      refine lv_aload_n hx hb dL_law_666 rfl (lv_at hl 0 rfl) ?_
      refine lv_iload_n hx hb dL_law_667 rfl (lv_at hl 3 rfl) ?_
      refine lv_iconst (v := 1) hx hb dL_law_668 (by decide) ?_
      refine lv_iadd hx hb dL_law_669 ?_
      refine va_sld hx hb hX hbl hbA hS (lwIn 1 hj7 (by omega)) dL_law_670 ?_
      refine kLi hPW hPV hD hS (va_runV (As := [.int (xs ((nI j) + 1).toNatClampNeg)]) (rest := []) ⟨hx, hb, hml, hown, hts⟩ (L_places l D cI cS hC (wo := wo) (su := su) (xk := xk) (xp := xp) (xw := xw) (ax := ax) (ra := ra) (rp := rp) (rg := rg) (xs ((nI j) + 1).toNatClampNeg)) (cwV 1 hts gL_law_X3_places rfl rfl rfl q_X3_places ⟨Nat.le_of_ble_eq_true rfl, Nat.le_of_ble_eq_true rfl⟩) ⟨kBD_blind, cw_recv hK hC hPW, kBD_of hK hPW (kD_left hD) (.ref h1 :: [.int (xs ((nI j) + 1).toNatClampNeg)])⟩ rfl rfl hl.1 rfl (lv_room (Nat.le_of_ble_eq_true rfl)) dL_law_671 ⟨Nat.le_refl _, Nat.le_refl _⟩) (fun Xv H locs hC2 hPW hPV hD hS hfst => ?_)
      refine lv_aload_n hx hb dL_law_674 rfl (lv_at hl 2 rfl) ?_
      refine lv_aload_n hx hb dL_law_675 rfl (lv_at hl 0 rfl) ?_
      refine lv_iload_n hx hb dL_law_676 rfl (lv_at hl 3 rfl) ?_
      refine lv_iconst (v := 1) hx hb dL_law_677 (by decide) ?_
      refine lv_iadd hx hb dL_law_678 ?_
      refine va_sld hx hb hX hbl hbA hS (lwIn 1 hj7 (by omega)) dL_law_679 ?_
      refine kRi (V1 := (wMo cI hm m1 m2 m3 m4 m5 m6 m7 m8 m9 m10 m11 m12 m13 lf tr an pn gr ax ra rp rg rd so sl ces kd ((fX4_places an kd pl ask shw N Rn (xs ((nI j) + 1).toNatClampNeg)).2) wt xk xp xw wo su ask shw)) hPW hPV hD hS rfl (va_runV (As := [.int (xs ((nI j) + 1).toNatClampNeg)]) (rest := [.int ((fX4_places an kd pl ask shw N Rn (xs ((nI j) + 1).toNatClampNeg)).1)]) ⟨hx, hb, hml, hown, hts⟩ (c_X4_places l D cI cS hm m1 m2 m3 m4 m5 m6 m7 m8 m9 m10 m11 m12 m13 lf tr an pn gr ax ra rp rg rd so sl ces kd pl wt xk xp xw wo su ask shw N Rn (xs ((nI j) + 1).toNatClampNeg) (cw_ha hC) (cw_hN hC) (cw_hrd hC) (cw_hRn hC) (cw_hask hC)) (cwV 1 hts gL_law_X4_places rfl rfl rfl q_X4_places ⟨Nat.le_of_ble_eq_true rfl, Nat.le_of_ble_eq_true rfl⟩) ⟨kBD_blind, va_recv hK.1 hPV (ci := 4) (q0 := 0) rfl rfl, kBD_of hK hPV (kD_right hD) (.ref hm :: [.int (xs ((nI j) + 1).toNatClampNeg)])⟩ rfl rfl hl.1 rfl (lv_room (Nat.le_of_ble_eq_true rfl)) dL_law_680 ⟨Nat.le_refl _, Nat.le_refl _⟩) (fun H locs hPW hPV hD hS => ?_)
      refine lv_icmp_eq (tgt := 1066) hx hb dL_law_683 (by decide) (fun c9 => ?_) (fun c9 => absurd rfl c9)
      obtain ⟨N2, P2, R2, hC2⟩ := hC2
      refine lv_iinc (v := nI (j + 7)) (lv' := [(3, .int (nI (j + 7))), (0, .ref b), (1, .ref h1), (2, .ref hm)]) hx hb dL_law_1066 hl (k := 3) rfl (nI_add j 7) (by decide) rfl (fun ls hl => ?_)
      refine lv_goto (tgt := 18) hx hb dL_law_1069 (by decide) ?_
      exact ih0 (j + 7) hj7 (by omega) _ _ _ _ _ _ _ _ _ _ _ _ _ _ _ _ _ _ _ _ _ _ _ _ _ _ _ _ _ _ _ _ _ _ _ _ _ _ _ _ _ _ hC2 _ _ hPW hPV hD hS ls (lv_sub hl [1, 2, 3, 0] rfl)
    by_cases c33_17 : z9 = 17
    · skip
      refine lv_tableIn (tgt := 688) (off := 655) hx hb dL_law_33 (by rw [c33_17]; decide) (by rw [c33_17]; decide) (by rw [c33_17]; decide) (by decide) ?_
      refine lv_aload_n hx hb dL_law_688 rfl (lv_at hl 1 rfl) ?_
      refine lv_aload_n hx hb dL_law_689 rfl (lv_at hl 0 rfl) ?_
      refine lv_iload_n hx hb dL_law_690 rfl (lv_at hl 3 rfl) ?_
      refine lv_iconst (v := 1) hx hb dL_law_691 (by decide) ?_
      refine lv_iadd hx hb dL_law_692 ?_
      refine va_sld hx hb hX hbl hbA hS (lwIn 1 hj7 (by omega)) dL_law_693 ?_
      refine lv_aload_n hx hb dL_law_694 rfl (lv_at hl 0 rfl) ?_
      refine lv_iload_n hx hb dL_law_695 rfl (lv_at hl 3 rfl) ?_
      refine lv_iconst (v := 2) hx hb dL_law_696 (by decide) ?_
      refine lv_iadd hx hb dL_law_697 ?_
      refine va_sld hx hb hX hbl hbA hS (lwIn 2 hj7 (by omega)) dL_law_698 ?_
      refine kLl hPW hPV hD hS (va_runV (As := [.int (xs ((nI j) + 1).toNatClampNeg), .int (xs ((nI j) + 2).toNatClampNeg)]) (rest := []) ⟨hx, hb, hml, hown, hts⟩ (L_odds l D cI cS hC (wo := wo) (su := su) (xk := xk) (xp := xp) (xw := xw) (ax := ax) (ra := ra) (rp := rp) (rg := rg) (xs ((nI j) + 1).toNatClampNeg) (xs ((nI j) + 2).toNatClampNeg)) (cwV 2 hts gL_law_X3_odds rfl rfl rfl q_X3_odds ⟨Nat.le_of_ble_eq_true rfl, Nat.le_of_ble_eq_true rfl⟩) ⟨kBD_blind, cw_recv hK hC hPW, kBD_of hK hPW (kD_left hD) (.ref h1 :: [.int (xs ((nI j) + 1).toNatClampNeg), .int (xs ((nI j) + 2).toNatClampNeg)])⟩ rfl rfl hl.1 rfl (lv_room (Nat.le_of_ble_eq_true rfl)) dL_law_699 ⟨Nat.le_refl _, Nat.le_refl _⟩) (fun Xv H locs hC2 hPW hPV hD hS hfst => ?_)
      refine lv_aload_n hx hb dL_law_702 rfl (lv_at hl 2 rfl) ?_
      refine lv_aload_n hx hb dL_law_703 rfl (lv_at hl 0 rfl) ?_
      refine lv_iload_n hx hb dL_law_704 rfl (lv_at hl 3 rfl) ?_
      refine lv_iconst (v := 1) hx hb dL_law_705 (by decide) ?_
      refine lv_iadd hx hb dL_law_706 ?_
      refine va_sld hx hb hX hbl hbA hS (lwIn 1 hj7 (by omega)) dL_law_707 ?_
      refine lv_aload_n hx hb dL_law_708 rfl (lv_at hl 0 rfl) ?_
      refine lv_iload_n hx hb dL_law_709 rfl (lv_at hl 3 rfl) ?_
      refine lv_iconst (v := 2) hx hb dL_law_710 (by decide) ?_
      refine lv_iadd hx hb dL_law_711 ?_
      refine va_sld hx hb hX hbl hbA hS (lwIn 2 hj7 (by omega)) dL_law_712 ?_
      refine kRl (V1 := (wMo cI hm m1 m2 m3 m4 m5 m6 m7 m8 m9 m10 m11 m12 m13 lf tr an pn gr ax ra rp rg rd so sl ces kd pl wt xk xp xw ((fX4_odds an kd pl wo su N (2 ^ N - 1) (xs ((nI j) + 1).toNatClampNeg) (xs ((nI j) + 2).toNatClampNeg)).2.1) ((fX4_odds an kd pl wo su N (2 ^ N - 1) (xs ((nI j) + 1).toNatClampNeg) (xs ((nI j) + 2).toNatClampNeg)).2.2) ask shw)) hPW hPV hD hS rfl (va_runV (As := [.int (xs ((nI j) + 1).toNatClampNeg), .int (xs ((nI j) + 2).toNatClampNeg)]) (rest := [.long ((fX4_odds an kd pl wo su N (2 ^ N - 1) (xs ((nI j) + 1).toNatClampNeg) (xs ((nI j) + 2).toNatClampNeg)).1)]) ⟨hx, hb, hml, hown, hts⟩ (c_X4_odds l D cI cS hm m1 m2 m3 m4 m5 m6 m7 m8 m9 m10 m11 m12 m13 lf tr an pn gr ax ra rp rg rd so sl ces kd pl wt xk xp xw wo su ask shw N (2 ^ N - 1) (oddsP kd pl N wo su) (xs ((nI j) + 1).toNatClampNeg) (xs ((nI j) + 2).toNatClampNeg) (cw_ha hC) (cw_hN hC) (mAll (cw_ha hC) (cw_hN hC)) (odds_M (cw_hN hC)) (odds_0 hC) (odds_1 hC) (odds_2 hC) (odds_3 hC)) (cwV 2 hts gL_law_X4_odds rfl rfl rfl q_X4_odds ⟨Nat.le_of_ble_eq_true rfl, Nat.le_of_ble_eq_true rfl⟩) ⟨kBD_blind, va_recv hK.1 hPV (ci := 4) (q0 := 0) rfl rfl, kBD_of hK hPV (kD_right hD) (.ref hm :: [.int (xs ((nI j) + 1).toNatClampNeg), .int (xs ((nI j) + 2).toNatClampNeg)])⟩ rfl rfl hl.1 rfl (lv_room (Nat.le_of_ble_eq_true rfl)) dL_law_713 ⟨Nat.le_refl _, Nat.le_refl _⟩) (fun H locs hPW hPV hD hS => ?_)
      refine W.lcmp hx hb dL_law_716 ?_
      refine lv_if_eq (tgt := 1066) hx hb dL_law_717 (by decide) (fun c9 => ?_) (fun c9 => absurd (lg_self _) c9)
      obtain ⟨N2, P2, R2, hC2⟩ := hC2
      refine lv_iinc (v := nI (j + 7)) (lv' := [(3, .int (nI (j + 7))), (0, .ref b), (1, .ref h1), (2, .ref hm)]) hx hb dL_law_1066 hl (k := 3) rfl (nI_add j 7) (by decide) rfl (fun ls hl => ?_)
      refine lv_goto (tgt := 18) hx hb dL_law_1069 (by decide) ?_
      exact ih0 (j + 7) hj7 (by omega) _ _ _ _ _ _ _ _ _ _ _ _ _ _ _ _ _ _ _ _ _ _ _ _ _ _ _ _ _ _ _ _ _ _ _ _ _ _ _ _ _ _ hC2 _ _ hPW hPV hD hS ls (lv_sub hl [1, 2, 3, 0] rfl)
    by_cases c33_18 : z9 = 18
    · skip
      refine lv_tableIn (tgt := 722) (off := 689) hx hb dL_law_33 (by rw [c33_18]; decide) (by rw [c33_18]; decide) (by rw [c33_18]; decide) (by decide) ?_
      refine lv_aload_n hx hb dL_law_722 rfl (lv_at hl 1 rfl) ?_
      refine lv_aload_n hx hb dL_law_723 rfl (lv_at hl 0 rfl) ?_
      refine lv_iload_n hx hb dL_law_724 rfl (lv_at hl 3 rfl) ?_
      refine lv_iconst (v := 1) hx hb dL_law_725 (by decide) ?_
      refine lv_iadd hx hb dL_law_726 ?_
      refine va_sld hx hb hX hbl hbA hS (lwIn 1 hj7 (by omega)) dL_law_727 ?_
      refine lv_aload_n hx hb dL_law_728 rfl (lv_at hl 0 rfl) ?_
      refine lv_iload_n hx hb dL_law_729 rfl (lv_at hl 3 rfl) ?_
      refine lv_iconst (v := 2) hx hb dL_law_730 (by decide) ?_
      refine lv_iadd hx hb dL_law_731 ?_
      refine va_sld hx hb hX hbl hbA hS (lwIn 2 hj7 (by omega)) dL_law_732 ?_
      refine lv_aload_n hx hb dL_law_733 rfl (lv_at hl 0 rfl) ?_
      refine lv_iload_n hx hb dL_law_734 rfl (lv_at hl 3 rfl) ?_
      refine lv_iconst (v := 3) hx hb dL_law_735 (by decide) ?_
      refine lv_iadd hx hb dL_law_736 ?_
      refine va_sld hx hb hX hbl hbA hS (lwIn 3 hj7 (by omega)) dL_law_737 ?_
      refine kLi hPW hPV hD hS (va_runV (As := [.int (xs ((nI j) + 1).toNatClampNeg), .int (xs ((nI j) + 2).toNatClampNeg), .int (xs ((nI j) + 3).toNatClampNeg)]) (rest := []) ⟨hx, hb, hml, hown, hts⟩ (L_sheet l D cI cS hC (wo := wo) (su := su) (xk := xk) (xp := xp) (xw := xw) (ax := ax) (ra := ra) (rp := rp) (rg := rg) (xs ((nI j) + 1).toNatClampNeg) (xs ((nI j) + 2).toNatClampNeg) (xs ((nI j) + 3).toNatClampNeg)) (cwV 3 hts gL_law_X3_sheet rfl rfl rfl q_X3_sheet ⟨Nat.le_of_ble_eq_true rfl, Nat.le_of_ble_eq_true rfl⟩) ⟨kBD_blind, cw_recv hK hC hPW, kBD_of hK hPW (kD_left hD) (.ref h1 :: [.int (xs ((nI j) + 1).toNatClampNeg), .int (xs ((nI j) + 2).toNatClampNeg), .int (xs ((nI j) + 3).toNatClampNeg)])⟩ rfl rfl hl.1 rfl (lv_room (Nat.le_of_ble_eq_true rfl)) dL_law_738 ⟨Nat.le_refl _, Nat.le_refl _⟩) (fun Xv H locs hC2 hPW hPV hD hS hfst => ?_)
      refine lv_aload_n hx hb dL_law_741 rfl (lv_at hl 2 rfl) ?_
      refine lv_aload_n hx hb dL_law_742 rfl (lv_at hl 0 rfl) ?_
      refine lv_iload_n hx hb dL_law_743 rfl (lv_at hl 3 rfl) ?_
      refine lv_iconst (v := 1) hx hb dL_law_744 (by decide) ?_
      refine lv_iadd hx hb dL_law_745 ?_
      refine va_sld hx hb hX hbl hbA hS (lwIn 1 hj7 (by omega)) dL_law_746 ?_
      refine lv_aload_n hx hb dL_law_747 rfl (lv_at hl 0 rfl) ?_
      refine lv_iload_n hx hb dL_law_748 rfl (lv_at hl 3 rfl) ?_
      refine lv_iconst (v := 2) hx hb dL_law_749 (by decide) ?_
      refine lv_iadd hx hb dL_law_750 ?_
      refine va_sld hx hb hX hbl hbA hS (lwIn 2 hj7 (by omega)) dL_law_751 ?_
      refine lv_aload_n hx hb dL_law_752 rfl (lv_at hl 0 rfl) ?_
      refine lv_iload_n hx hb dL_law_753 rfl (lv_at hl 3 rfl) ?_
      refine lv_iconst (v := 3) hx hb dL_law_754 (by decide) ?_
      refine lv_iadd hx hb dL_law_755 ?_
      refine va_sld hx hb hX hbl hbA hS (lwIn 3 hj7 (by omega)) dL_law_756 ?_
      refine kRi (V1 := (wMo cI hm m1 m2 m3 m4 m5 m6 m7 m8 m9 m10 m11 m12 m13 ((fX4_sheet so sl ces (xs ((nI j) + 1).toNatClampNeg) (xs ((nI j) + 2).toNatClampNeg) (xs ((nI j) + 3).toNatClampNeg)).2.1) tr an pn gr ax ra rp rg rd ((fX4_sheet so sl ces (xs ((nI j) + 1).toNatClampNeg) (xs ((nI j) + 2).toNatClampNeg) (xs ((nI j) + 3).toNatClampNeg)).2.2.1) ((fX4_sheet so sl ces (xs ((nI j) + 1).toNatClampNeg) (xs ((nI j) + 2).toNatClampNeg) (xs ((nI j) + 3).toNatClampNeg)).2.2.2.1) ((fX4_sheet so sl ces (xs ((nI j) + 1).toNatClampNeg) (xs ((nI j) + 2).toNatClampNeg) (xs ((nI j) + 3).toNatClampNeg)).2.2.2.2) kd pl wt xk xp xw wo su ask shw)) hPW hPV hD hS rfl (va_runV (As := [.int (xs ((nI j) + 1).toNatClampNeg), .int (xs ((nI j) + 2).toNatClampNeg), .int (xs ((nI j) + 3).toNatClampNeg)]) (rest := [.int ((fX4_sheet so sl ces (xs ((nI j) + 1).toNatClampNeg) (xs ((nI j) + 2).toNatClampNeg) (xs ((nI j) + 3).toNatClampNeg)).1)]) ⟨hx, hb, hml, hown, hts⟩ (c_X4_sheet l D cI cS hm m1 m2 m3 m4 m5 m6 m7 m8 m9 m10 m11 m12 m13 lf tr an pn gr ax ra rp rg rd so sl ces kd pl wt xk xp xw wo su ask shw (xs ((nI j) + 1).toNatClampNeg) (xs ((nI j) + 2).toNatClampNeg) (xs ((nI j) + 3).toNatClampNeg)) (cwV 3 hts gL_law_X4_sheet rfl rfl rfl q_X4_sheet ⟨Nat.le_of_ble_eq_true rfl, Nat.le_of_ble_eq_true rfl⟩) ⟨kBD_blind, va_recv hK.1 hPV (ci := 4) (q0 := 0) rfl rfl, kBD_of hK hPV (kD_right hD) (.ref hm :: [.int (xs ((nI j) + 1).toNatClampNeg), .int (xs ((nI j) + 2).toNatClampNeg), .int (xs ((nI j) + 3).toNatClampNeg)])⟩ rfl rfl hl.1 rfl (lv_room (Nat.le_of_ble_eq_true rfl)) dL_law_757 ⟨Nat.le_refl _, Nat.le_refl _⟩) (fun H locs hPW hPV hD hS => ?_)
      refine lv_icmp_eq (tgt := 1066) hx hb dL_law_760 (by decide) (fun c9 => ?_) (fun c9 => absurd rfl c9)
      obtain ⟨N2, P2, R2, hC2⟩ := hC2
      refine lv_iinc (v := nI (j + 7)) (lv' := [(3, .int (nI (j + 7))), (0, .ref b), (1, .ref h1), (2, .ref hm)]) hx hb dL_law_1066 hl (k := 3) rfl (nI_add j 7) (by decide) rfl (fun ls hl => ?_)
      refine lv_goto (tgt := 18) hx hb dL_law_1069 (by decide) ?_
      exact ih0 (j + 7) hj7 (by omega) _ _ _ _ _ _ _ _ _ _ _ _ _ _ _ _ _ _ _ _ _ _ _ _ _ _ _ _ _ _ _ _ _ _ _ _ _ _ _ _ _ _ hC2 _ _ hPW hPV hD hS ls (lv_sub hl [1, 2, 3, 0] rfl)
    by_cases c33_19 : z9 = 19
    · skip
      refine lv_tableIn (tgt := 765) (off := 732) hx hb dL_law_33 (by rw [c33_19]; decide) (by rw [c33_19]; decide) (by rw [c33_19]; decide) (by decide) ?_
      refine lv_aload_n hx hb dL_law_765 rfl (lv_at hl 1 rfl) ?_
      refine lv_aload_n hx hb dL_law_766 rfl (lv_at hl 0 rfl) ?_
      refine lv_iload_n hx hb dL_law_767 rfl (lv_at hl 3 rfl) ?_
      refine lv_iconst (v := 1) hx hb dL_law_768 (by decide) ?_
      refine lv_iadd hx hb dL_law_769 ?_
      refine va_sld hx hb hX hbl hbA hS (lwIn 1 hj7 (by omega)) dL_law_770 ?_
      refine kLi hPW hPV hD hS (va_runV (As := [.int (xs ((nI j) + 1).toNatClampNeg)]) (rest := []) ⟨hx, hb, hml, hown, hts⟩ (L_lose l D cI cS hC (wo := wo) (su := su) (xk := xk) (xp := xp) (xw := xw) (ax := ax) (ra := ra) (rp := rp) (rg := rg) (xs ((nI j) + 1).toNatClampNeg)) (cwV 1 hts gL_law_X3_lose rfl rfl rfl q_X3_lose ⟨Nat.le_of_ble_eq_true rfl, Nat.le_of_ble_eq_true rfl⟩) ⟨kBD_blind, cw_recv hK hC hPW, kBD_of hK hPW (kD_left hD) (.ref h1 :: [.int (xs ((nI j) + 1).toNatClampNeg)])⟩ rfl rfl hl.1 rfl (lv_room (Nat.le_of_ble_eq_true rfl)) dL_law_771 ⟨Nat.le_refl _, Nat.le_refl _⟩) (fun Xv H locs hC2 hPW hPV hD hS hfst => ?_)
      refine lv_aload_n hx hb dL_law_774 rfl (lv_at hl 2 rfl) ?_
      refine lv_aload_n hx hb dL_law_775 rfl (lv_at hl 0 rfl) ?_
      refine lv_iload_n hx hb dL_law_776 rfl (lv_at hl 3 rfl) ?_
      refine lv_iconst (v := 1) hx hb dL_law_777 (by decide) ?_
      refine lv_iadd hx hb dL_law_778 ?_
      refine va_sld hx hb hX hbl hbA hS (lwIn 1 hj7 (by omega)) dL_law_779 ?_
      refine kRi (V1 := (wMo cI hm m1 m2 m3 m4 m5 m6 m7 m8 m9 m10 m11 m12 m13 lf tr an pn gr ax ra rp rg rd ((fX4_lose so (xs ((nI j) + 1).toNatClampNeg)).2) sl ces kd pl wt xk xp xw wo su ask shw)) hPW hPV hD hS rfl (va_runV (As := [.int (xs ((nI j) + 1).toNatClampNeg)]) (rest := [.int ((fX4_lose so (xs ((nI j) + 1).toNatClampNeg)).1)]) ⟨hx, hb, hml, hown, hts⟩ (c_X4_lose l D cI cS hm m1 m2 m3 m4 m5 m6 m7 m8 m9 m10 m11 m12 m13 lf tr an pn gr ax ra rp rg rd so sl ces kd pl wt xk xp xw wo su ask shw (xs ((nI j) + 1).toNatClampNeg)) (cwV 1 hts gL_law_X4_lose rfl rfl rfl q_X4_lose ⟨Nat.le_of_ble_eq_true rfl, Nat.le_of_ble_eq_true rfl⟩) ⟨kBD_blind, va_recv hK.1 hPV (ci := 4) (q0 := 0) rfl rfl, kBD_of hK hPV (kD_right hD) (.ref hm :: [.int (xs ((nI j) + 1).toNatClampNeg)])⟩ rfl rfl hl.1 rfl (lv_room (Nat.le_of_ble_eq_true rfl)) dL_law_780 ⟨Nat.le_refl _, Nat.le_refl _⟩) (fun H locs hPW hPV hD hS => ?_)
      refine lv_icmp_eq (tgt := 1066) hx hb dL_law_783 (by decide) (fun c9 => ?_) (fun c9 => absurd rfl c9)
      obtain ⟨N2, P2, R2, hC2⟩ := hC2
      refine lv_iinc (v := nI (j + 7)) (lv' := [(3, .int (nI (j + 7))), (0, .ref b), (1, .ref h1), (2, .ref hm)]) hx hb dL_law_1066 hl (k := 3) rfl (nI_add j 7) (by decide) rfl (fun ls hl => ?_)
      refine lv_goto (tgt := 18) hx hb dL_law_1069 (by decide) ?_
      exact ih0 (j + 7) hj7 (by omega) _ _ _ _ _ _ _ _ _ _ _ _ _ _ _ _ _ _ _ _ _ _ _ _ _ _ _ _ _ _ _ _ _ _ _ _ _ _ _ _ _ _ hC2 _ _ hPW hPV hD hS ls (lv_sub hl [1, 2, 3, 0] rfl)
    by_cases c33_20 : z9 = 20
    · skip
      refine lv_tableIn (tgt := 788) (off := 755) hx hb dL_law_33 (by rw [c33_20]; decide) (by rw [c33_20]; decide) (by rw [c33_20]; decide) (by decide) ?_
      refine lv_aload_n hx hb dL_law_788 rfl (lv_at hl 1 rfl) ?_
      refine lv_aload_n hx hb dL_law_789 rfl (lv_at hl 0 rfl) ?_
      refine lv_iload_n hx hb dL_law_790 rfl (lv_at hl 3 rfl) ?_
      refine lv_iconst (v := 1) hx hb dL_law_791 (by decide) ?_
      refine lv_iadd hx hb dL_law_792 ?_
      refine va_sld hx hb hX hbl hbA hS (lwIn 1 hj7 (by omega)) dL_law_793 ?_
      refine lv_aload_n hx hb dL_law_794 rfl (lv_at hl 0 rfl) ?_
      refine lv_iload_n hx hb dL_law_795 rfl (lv_at hl 3 rfl) ?_
      refine lv_iconst (v := 2) hx hb dL_law_796 (by decide) ?_
      refine lv_iadd hx hb dL_law_797 ?_
      refine va_sld hx hb hX hbl hbA hS (lwIn 2 hj7 (by omega)) dL_law_798 ?_
      refine lv_aload_n hx hb dL_law_799 rfl (lv_at hl 0 rfl) ?_
      refine lv_iload_n hx hb dL_law_800 rfl (lv_at hl 3 rfl) ?_
      refine lv_iconst (v := 3) hx hb dL_law_801 (by decide) ?_
      refine lv_iadd hx hb dL_law_802 ?_
      refine va_sld hx hb hX hbl hbA hS (lwIn 3 hj7 (by omega)) dL_law_803 ?_
      refine kLi hPW hPV hD hS (va_runV (As := [.int (xs ((nI j) + 1).toNatClampNeg), .int (xs ((nI j) + 2).toNatClampNeg), .int (xs ((nI j) + 3).toNatClampNeg)]) (rest := []) ⟨hx, hb, hml, hown, hts⟩ (L_put l D cI cS hC (wo := wo) (su := su) (xk := xk) (xp := xp) (xw := xw) (ax := ax) (ra := ra) (rp := rp) (rg := rg) (xs ((nI j) + 1).toNatClampNeg) (xs ((nI j) + 2).toNatClampNeg) (xs ((nI j) + 3).toNatClampNeg)) (cwV 3 hts gL_law_X3_put rfl rfl rfl q_X3_put ⟨Nat.le_of_ble_eq_true rfl, Nat.le_of_ble_eq_true rfl⟩) ⟨kBD_blind, cw_recv hK hC hPW, kBD_of hK hPW (kD_left hD) (.ref h1 :: [.int (xs ((nI j) + 1).toNatClampNeg), .int (xs ((nI j) + 2).toNatClampNeg), .int (xs ((nI j) + 3).toNatClampNeg)])⟩ rfl rfl hl.1 rfl (lv_room (Nat.le_of_ble_eq_true rfl)) dL_law_804 ⟨Nat.le_refl _, Nat.le_refl _⟩) (fun Xv H locs hC2 hPW hPV hD hS hfst => ?_)
      refine lv_aload_n hx hb dL_law_807 rfl (lv_at hl 2 rfl) ?_
      refine lv_aload_n hx hb dL_law_808 rfl (lv_at hl 0 rfl) ?_
      refine lv_iload_n hx hb dL_law_809 rfl (lv_at hl 3 rfl) ?_
      refine lv_iconst (v := 1) hx hb dL_law_810 (by decide) ?_
      refine lv_iadd hx hb dL_law_811 ?_
      refine va_sld hx hb hX hbl hbA hS (lwIn 1 hj7 (by omega)) dL_law_812 ?_
      refine lv_aload_n hx hb dL_law_813 rfl (lv_at hl 0 rfl) ?_
      refine lv_iload_n hx hb dL_law_814 rfl (lv_at hl 3 rfl) ?_
      refine lv_iconst (v := 2) hx hb dL_law_815 (by decide) ?_
      refine lv_iadd hx hb dL_law_816 ?_
      refine va_sld hx hb hX hbl hbA hS (lwIn 2 hj7 (by omega)) dL_law_817 ?_
      refine lv_aload_n hx hb dL_law_818 rfl (lv_at hl 0 rfl) ?_
      refine lv_iload_n hx hb dL_law_819 rfl (lv_at hl 3 rfl) ?_
      refine lv_iconst (v := 3) hx hb dL_law_820 (by decide) ?_
      refine lv_iadd hx hb dL_law_821 ?_
      refine va_sld hx hb hX hbl hbA hS (lwIn 3 hj7 (by omega)) dL_law_822 ?_
      refine kRi (V1 := (wMo cI hm m1 m2 m3 m4 m5 m6 m7 m8 m9 m10 m11 m12 m13 ((fX4_put so sl ces (xs ((nI j) + 1).toNatClampNeg) (xs ((nI j) + 2).toNatClampNeg) (xs ((nI j) + 3).toNatClampNeg)).2.1) tr an pn gr ax ra rp rg rd so sl ((fX4_put so sl ces (xs ((nI j) + 1).toNatClampNeg) (xs ((nI j) + 2).toNatClampNeg) (xs ((nI j) + 3).toNatClampNeg)).2.2) kd pl wt xk xp xw wo su ask shw)) hPW hPV hD hS rfl (va_runV (As := [.int (xs ((nI j) + 1).toNatClampNeg), .int (xs ((nI j) + 2).toNatClampNeg), .int (xs ((nI j) + 3).toNatClampNeg)]) (rest := [.int ((fX4_put so sl ces (xs ((nI j) + 1).toNatClampNeg) (xs ((nI j) + 2).toNatClampNeg) (xs ((nI j) + 3).toNatClampNeg)).1)]) ⟨hx, hb, hml, hown, hts⟩ (c_X4_put l D cI cS hm m1 m2 m3 m4 m5 m6 m7 m8 m9 m10 m11 m12 m13 lf tr an pn gr ax ra rp rg rd so sl ces kd pl wt xk xp xw wo su ask shw (xs ((nI j) + 1).toNatClampNeg) (xs ((nI j) + 2).toNatClampNeg) (xs ((nI j) + 3).toNatClampNeg) (cw_hsl hC)) (cwV 3 hts gL_law_X4_put rfl rfl rfl q_X4_put ⟨Nat.le_of_ble_eq_true rfl, Nat.le_of_ble_eq_true rfl⟩) ⟨kBD_blind, va_recv hK.1 hPV (ci := 4) (q0 := 0) rfl rfl, kBD_of hK hPV (kD_right hD) (.ref hm :: [.int (xs ((nI j) + 1).toNatClampNeg), .int (xs ((nI j) + 2).toNatClampNeg), .int (xs ((nI j) + 3).toNatClampNeg)])⟩ rfl rfl hl.1 rfl (lv_room (Nat.le_of_ble_eq_true rfl)) dL_law_823 ⟨Nat.le_refl _, Nat.le_refl _⟩) (fun H locs hPW hPV hD hS => ?_)
      refine lv_icmp_eq (tgt := 1066) hx hb dL_law_826 (by decide) (fun c9 => ?_) (fun c9 => absurd rfl c9)
      obtain ⟨N2, P2, R2, hC2⟩ := hC2
      refine lv_iinc (v := nI (j + 7)) (lv' := [(3, .int (nI (j + 7))), (0, .ref b), (1, .ref h1), (2, .ref hm)]) hx hb dL_law_1066 hl (k := 3) rfl (nI_add j 7) (by decide) rfl (fun ls hl => ?_)
      refine lv_goto (tgt := 18) hx hb dL_law_1069 (by decide) ?_
      exact ih0 (j + 7) hj7 (by omega) _ _ _ _ _ _ _ _ _ _ _ _ _ _ _ _ _ _ _ _ _ _ _ _ _ _ _ _ _ _ _ _ _ _ _ _ _ _ _ _ _ _ hC2 _ _ hPW hPV hD hS ls (lv_sub hl [1, 2, 3, 0] rfl)
    by_cases c33_21 : z9 = 21
    · skip
      refine lv_tableIn (tgt := 831) (off := 798) hx hb dL_law_33 (by rw [c33_21]; decide) (by rw [c33_21]; decide) (by rw [c33_21]; decide) (by decide) ?_
      refine lv_aload_n hx hb dL_law_831 rfl (lv_at hl 1 rfl) ?_
      refine lv_aload_n hx hb dL_law_832 rfl (lv_at hl 0 rfl) ?_
      refine lv_iload_n hx hb dL_law_833 rfl (lv_at hl 3 rfl) ?_
      refine lv_iconst (v := 1) hx hb dL_law_834 (by decide) ?_
      refine lv_iadd hx hb dL_law_835 ?_
      refine va_sld hx hb hX hbl hbA hS (lwIn 1 hj7 (by omega)) dL_law_836 ?_
      refine lv_aload_n hx hb dL_law_837 rfl (lv_at hl 0 rfl) ?_
      refine lv_iload_n hx hb dL_law_838 rfl (lv_at hl 3 rfl) ?_
      refine lv_iconst (v := 2) hx hb dL_law_839 (by decide) ?_
      refine lv_iadd hx hb dL_law_840 ?_
      refine va_sld hx hb hX hbl hbA hS (lwIn 2 hj7 (by omega)) dL_law_841 ?_
      refine lv_aload_n hx hb dL_law_842 rfl (lv_at hl 0 rfl) ?_
      refine lv_iload_n hx hb dL_law_843 rfl (lv_at hl 3 rfl) ?_
      refine lv_iconst (v := 3) hx hb dL_law_844 (by decide) ?_
      refine lv_iadd hx hb dL_law_845 ?_
      refine va_sld hx hb hX hbl hbA hS (lwIn 3 hj7 (by omega)) dL_law_846 ?_
      refine kLl hPW hPV hD hS (va_runV (As := [.int (xs ((nI j) + 1).toNatClampNeg), .int (xs ((nI j) + 2).toNatClampNeg), .int (xs ((nI j) + 3).toNatClampNeg)]) (rest := []) ⟨hx, hb, hml, hown, hts⟩ (L_cell l D cI cS hC (wo := wo) (su := su) (xk := xk) (xp := xp) (xw := xw) (ax := ax) (ra := ra) (rp := rp) (rg := rg) (xs ((nI j) + 1).toNatClampNeg) (xs ((nI j) + 2).toNatClampNeg) (xs ((nI j) + 3).toNatClampNeg)) (cwV 3 hts gL_law_X3_cell rfl rfl rfl q_X3_cell ⟨Nat.le_of_ble_eq_true rfl, Nat.le_of_ble_eq_true rfl⟩) ⟨kBD_blind, cw_recv hK hC hPW, kBD_of hK hPW (kD_left hD) (.ref h1 :: [.int (xs ((nI j) + 1).toNatClampNeg), .int (xs ((nI j) + 2).toNatClampNeg), .int (xs ((nI j) + 3).toNatClampNeg)])⟩ rfl rfl hl.1 rfl (lv_room (Nat.le_of_ble_eq_true rfl)) dL_law_847 ⟨Nat.le_refl _, Nat.le_refl _⟩) (fun Xv H locs hC2 hPW hPV hD hS hfst => ?_)
      refine lv_aload_n hx hb dL_law_850 rfl (lv_at hl 2 rfl) ?_
      refine lv_aload_n hx hb dL_law_851 rfl (lv_at hl 0 rfl) ?_
      refine lv_iload_n hx hb dL_law_852 rfl (lv_at hl 3 rfl) ?_
      refine lv_iconst (v := 1) hx hb dL_law_853 (by decide) ?_
      refine lv_iadd hx hb dL_law_854 ?_
      refine va_sld hx hb hX hbl hbA hS (lwIn 1 hj7 (by omega)) dL_law_855 ?_
      refine lv_aload_n hx hb dL_law_856 rfl (lv_at hl 0 rfl) ?_
      refine lv_iload_n hx hb dL_law_857 rfl (lv_at hl 3 rfl) ?_
      refine lv_iconst (v := 2) hx hb dL_law_858 (by decide) ?_
      refine lv_iadd hx hb dL_law_859 ?_
      refine va_sld hx hb hX hbl hbA hS (lwIn 2 hj7 (by omega)) dL_law_860 ?_
      refine lv_aload_n hx hb dL_law_861 rfl (lv_at hl 0 rfl) ?_
      refine lv_iload_n hx hb dL_law_862 rfl (lv_at hl 3 rfl) ?_
      refine lv_iconst (v := 3) hx hb dL_law_863 (by decide) ?_
      refine lv_iadd hx hb dL_law_864 ?_
      refine va_sld hx hb hX hbl hbA hS (lwIn 3 hj7 (by omega)) dL_law_865 ?_
      refine kRl (V1 := (wMo cI hm m1 m2 m3 m4 m5 m6 m7 m8 m9 m10 m11 m12 m13 ((fX4_cell so sl ces (xs ((nI j) + 1).toNatClampNeg) (xs ((nI j) + 2).toNatClampNeg) (xs ((nI j) + 3).toNatClampNeg)).2) tr an pn gr ax ra rp rg rd so sl ces kd pl wt xk xp xw wo su ask shw)) hPW hPV hD hS rfl (va_runV (As := [.int (xs ((nI j) + 1).toNatClampNeg), .int (xs ((nI j) + 2).toNatClampNeg), .int (xs ((nI j) + 3).toNatClampNeg)]) (rest := [.long ((fX4_cell so sl ces (xs ((nI j) + 1).toNatClampNeg) (xs ((nI j) + 2).toNatClampNeg) (xs ((nI j) + 3).toNatClampNeg)).1)]) ⟨hx, hb, hml, hown, hts⟩ (c_X4_cell l D cI cS hm m1 m2 m3 m4 m5 m6 m7 m8 m9 m10 m11 m12 m13 lf tr an pn gr ax ra rp rg rd so sl ces kd pl wt xk xp xw wo su ask shw (xs ((nI j) + 1).toNatClampNeg) (xs ((nI j) + 2).toNatClampNeg) (xs ((nI j) + 3).toNatClampNeg) (cw_hsl hC)) (cwV 3 hts gL_law_X4_cell rfl rfl rfl q_X4_cell ⟨Nat.le_of_ble_eq_true rfl, Nat.le_of_ble_eq_true rfl⟩) ⟨kBD_blind, va_recv hK.1 hPV (ci := 4) (q0 := 0) rfl rfl, kBD_of hK hPV (kD_right hD) (.ref hm :: [.int (xs ((nI j) + 1).toNatClampNeg), .int (xs ((nI j) + 2).toNatClampNeg), .int (xs ((nI j) + 3).toNatClampNeg)])⟩ rfl rfl hl.1 rfl (lv_room (Nat.le_of_ble_eq_true rfl)) dL_law_866 ⟨Nat.le_refl _, Nat.le_refl _⟩) (fun H locs hPW hPV hD hS => ?_)
      refine W.lcmp hx hb dL_law_869 ?_
      refine lv_if_eq (tgt := 1066) hx hb dL_law_870 (by decide) (fun c9 => ?_) (fun c9 => absurd (lg_self _) c9)
      obtain ⟨N2, P2, R2, hC2⟩ := hC2
      refine lv_iinc (v := nI (j + 7)) (lv' := [(3, .int (nI (j + 7))), (0, .ref b), (1, .ref h1), (2, .ref hm)]) hx hb dL_law_1066 hl (k := 3) rfl (nI_add j 7) (by decide) rfl (fun ls hl => ?_)
      refine lv_goto (tgt := 18) hx hb dL_law_1069 (by decide) ?_
      exact ih0 (j + 7) hj7 (by omega) _ _ _ _ _ _ _ _ _ _ _ _ _ _ _ _ _ _ _ _ _ _ _ _ _ _ _ _ _ _ _ _ _ _ _ _ _ _ _ _ _ _ hC2 _ _ hPW hPV hD hS ls (lv_sub hl [1, 2, 3, 0] rfl)
    by_cases c33_22 : z9 = 22
    · skip
      refine lv_tableIn (tgt := 875) (off := 842) hx hb dL_law_33 (by rw [c33_22]; decide) (by rw [c33_22]; decide) (by rw [c33_22]; decide) (by decide) ?_
      refine lv_aload_n hx hb dL_law_875 rfl (lv_at hl 1 rfl) ?_
      refine lv_aload_n hx hb dL_law_876 rfl (lv_at hl 0 rfl) ?_
      refine lv_iload_n hx hb dL_law_877 rfl (lv_at hl 3 rfl) ?_
      refine lv_iconst (v := 1) hx hb dL_law_878 (by decide) ?_
      refine lv_iadd hx hb dL_law_879 ?_
      refine va_sld hx hb hX hbl hbA hS (lwIn 1 hj7 (by omega)) dL_law_880 ?_
      refine lv_aload_n hx hb dL_law_881 rfl (lv_at hl 0 rfl) ?_
      refine lv_iload_n hx hb dL_law_882 rfl (lv_at hl 3 rfl) ?_
      refine lv_iconst (v := 2) hx hb dL_law_883 (by decide) ?_
      refine lv_iadd hx hb dL_law_884 ?_
      refine va_sld hx hb hX hbl hbA hS (lwIn 2 hj7 (by omega)) dL_law_885 ?_
      refine lv_aload_n hx hb dL_law_886 rfl (lv_at hl 0 rfl) ?_
      refine lv_iload_n hx hb dL_law_887 rfl (lv_at hl 3 rfl) ?_
      refine lv_iconst (v := 3) hx hb dL_law_888 (by decide) ?_
      refine lv_iadd hx hb dL_law_889 ?_
      refine va_sld hx hb hX hbl hbA hS (lwIn 3 hj7 (by omega)) dL_law_890 ?_
      refine lv_aload_n hx hb dL_law_891 rfl (lv_at hl 0 rfl) ?_
      refine lv_iload_n hx hb dL_law_892 rfl (lv_at hl 3 rfl) ?_
      refine lv_iconst (v := 4) hx hb dL_law_893 (by decide) ?_
      refine lv_iadd hx hb dL_law_894 ?_
      refine va_sld hx hb hX hbl hbA hS (lwIn 4 hj7 (by omega)) dL_law_895 ?_
      refine lv_aload_n hx hb dL_law_896 rfl (lv_at hl 0 rfl) ?_
      refine lv_iload_n hx hb dL_law_897 rfl (lv_at hl 3 rfl) ?_
      refine lv_iconst (v := 5) hx hb dL_law_898 (by decide) ?_
      refine lv_iadd hx hb dL_law_899 ?_
      refine va_sld hx hb hX hbl hbA hS (lwIn 5 hj7 (by omega)) dL_law_900 ?_
      refine kLi hPW hPV hD hS (va_runV (As := [.int (xs ((nI j) + 1).toNatClampNeg), .int (xs ((nI j) + 2).toNatClampNeg), .int (xs ((nI j) + 3).toNatClampNeg), .int (xs ((nI j) + 4).toNatClampNeg), .int (xs ((nI j) + 5).toNatClampNeg)]) (rest := []) ⟨hx, hb, hml, hown, hts⟩ (L_copy l D cI cS hC (wo := wo) (su := su) (xk := xk) (xp := xp) (xw := xw) (ax := ax) (ra := ra) (rp := rp) (rg := rg) (xs ((nI j) + 1).toNatClampNeg) (xs ((nI j) + 2).toNatClampNeg) (xs ((nI j) + 3).toNatClampNeg) (xs ((nI j) + 4).toNatClampNeg) (xs ((nI j) + 5).toNatClampNeg)) (cwV 5 hts gL_law_X3_copy rfl rfl rfl q_X3_copy ⟨Nat.le_of_ble_eq_true rfl, Nat.le_of_ble_eq_true rfl⟩) ⟨kBD_blind, cw_recv hK hC hPW, kBD_of hK hPW (kD_left hD) (.ref h1 :: [.int (xs ((nI j) + 1).toNatClampNeg), .int (xs ((nI j) + 2).toNatClampNeg), .int (xs ((nI j) + 3).toNatClampNeg), .int (xs ((nI j) + 4).toNatClampNeg), .int (xs ((nI j) + 5).toNatClampNeg)])⟩ rfl rfl hl.1 rfl (lv_room (Nat.le_of_ble_eq_true rfl)) dL_law_901 ⟨Nat.le_refl _, Nat.le_refl _⟩) (fun Xv H locs hC2 hPW hPV hD hS hfst => ?_)
      refine lv_aload_n hx hb dL_law_904 rfl (lv_at hl 2 rfl) ?_
      refine lv_aload_n hx hb dL_law_905 rfl (lv_at hl 0 rfl) ?_
      refine lv_iload_n hx hb dL_law_906 rfl (lv_at hl 3 rfl) ?_
      refine lv_iconst (v := 1) hx hb dL_law_907 (by decide) ?_
      refine lv_iadd hx hb dL_law_908 ?_
      refine va_sld hx hb hX hbl hbA hS (lwIn 1 hj7 (by omega)) dL_law_909 ?_
      refine lv_aload_n hx hb dL_law_910 rfl (lv_at hl 0 rfl) ?_
      refine lv_iload_n hx hb dL_law_911 rfl (lv_at hl 3 rfl) ?_
      refine lv_iconst (v := 2) hx hb dL_law_912 (by decide) ?_
      refine lv_iadd hx hb dL_law_913 ?_
      refine va_sld hx hb hX hbl hbA hS (lwIn 2 hj7 (by omega)) dL_law_914 ?_
      refine lv_aload_n hx hb dL_law_915 rfl (lv_at hl 0 rfl) ?_
      refine lv_iload_n hx hb dL_law_916 rfl (lv_at hl 3 rfl) ?_
      refine lv_iconst (v := 3) hx hb dL_law_917 (by decide) ?_
      refine lv_iadd hx hb dL_law_918 ?_
      refine va_sld hx hb hX hbl hbA hS (lwIn 3 hj7 (by omega)) dL_law_919 ?_
      refine lv_aload_n hx hb dL_law_920 rfl (lv_at hl 0 rfl) ?_
      refine lv_iload_n hx hb dL_law_921 rfl (lv_at hl 3 rfl) ?_
      refine lv_iconst (v := 4) hx hb dL_law_922 (by decide) ?_
      refine lv_iadd hx hb dL_law_923 ?_
      refine va_sld hx hb hX hbl hbA hS (lwIn 4 hj7 (by omega)) dL_law_924 ?_
      refine lv_aload_n hx hb dL_law_925 rfl (lv_at hl 0 rfl) ?_
      refine lv_iload_n hx hb dL_law_926 rfl (lv_at hl 3 rfl) ?_
      refine lv_iconst (v := 5) hx hb dL_law_927 (by decide) ?_
      refine lv_iadd hx hb dL_law_928 ?_
      refine va_sld hx hb hX hbl hbA hS (lwIn 5 hj7 (by omega)) dL_law_929 ?_
      refine kRi (V1 := (wMo cI hm m1 m2 m3 m4 m5 m6 m7 m8 m9 m10 m11 m12 m13 ((fX4_copy so sl ces (xs ((nI j) + 1).toNatClampNeg) (xs ((nI j) + 2).toNatClampNeg) (xs ((nI j) + 3).toNatClampNeg) (xs ((nI j) + 4).toNatClampNeg) (xs ((nI j) + 5).toNatClampNeg)).2.1) tr an pn gr ax ra rp rg rd so sl ((fX4_copy so sl ces (xs ((nI j) + 1).toNatClampNeg) (xs ((nI j) + 2).toNatClampNeg) (xs ((nI j) + 3).toNatClampNeg) (xs ((nI j) + 4).toNatClampNeg) (xs ((nI j) + 5).toNatClampNeg)).2.2) kd pl wt xk xp xw wo su ask shw)) hPW hPV hD hS rfl (va_runV (As := [.int (xs ((nI j) + 1).toNatClampNeg), .int (xs ((nI j) + 2).toNatClampNeg), .int (xs ((nI j) + 3).toNatClampNeg), .int (xs ((nI j) + 4).toNatClampNeg), .int (xs ((nI j) + 5).toNatClampNeg)]) (rest := [.int ((fX4_copy so sl ces (xs ((nI j) + 1).toNatClampNeg) (xs ((nI j) + 2).toNatClampNeg) (xs ((nI j) + 3).toNatClampNeg) (xs ((nI j) + 4).toNatClampNeg) (xs ((nI j) + 5).toNatClampNeg)).1)]) ⟨hx, hb, hml, hown, hts⟩ (c_X4_copy l D cI cS hm m1 m2 m3 m4 m5 m6 m7 m8 m9 m10 m11 m12 m13 lf tr an pn gr ax ra rp rg rd so sl ces kd pl wt xk xp xw wo su ask shw (xs ((nI j) + 1).toNatClampNeg) (xs ((nI j) + 2).toNatClampNeg) (xs ((nI j) + 3).toNatClampNeg) (xs ((nI j) + 4).toNatClampNeg) (xs ((nI j) + 5).toNatClampNeg) (cw_hsl hC)) (cwV 5 hts gL_law_X4_copy rfl rfl rfl q_X4_copy ⟨Nat.le_of_ble_eq_true rfl, Nat.le_of_ble_eq_true rfl⟩) ⟨kBD_blind, va_recv hK.1 hPV (ci := 4) (q0 := 0) rfl rfl, kBD_of hK hPV (kD_right hD) (.ref hm :: [.int (xs ((nI j) + 1).toNatClampNeg), .int (xs ((nI j) + 2).toNatClampNeg), .int (xs ((nI j) + 3).toNatClampNeg), .int (xs ((nI j) + 4).toNatClampNeg), .int (xs ((nI j) + 5).toNatClampNeg)])⟩ rfl rfl hl.1 rfl (lv_room (Nat.le_of_ble_eq_true rfl)) dL_law_930 ⟨Nat.le_refl _, Nat.le_refl _⟩) (fun H locs hPW hPV hD hS => ?_)
      refine lv_icmp_eq (tgt := 1066) hx hb dL_law_933 (by decide) (fun c9 => ?_) (fun c9 => absurd rfl c9)
      obtain ⟨N2, P2, R2, hC2⟩ := hC2
      refine lv_iinc (v := nI (j + 7)) (lv' := [(3, .int (nI (j + 7))), (0, .ref b), (1, .ref h1), (2, .ref hm)]) hx hb dL_law_1066 hl (k := 3) rfl (nI_add j 7) (by decide) rfl (fun ls hl => ?_)
      refine lv_goto (tgt := 18) hx hb dL_law_1069 (by decide) ?_
      exact ih0 (j + 7) hj7 (by omega) _ _ _ _ _ _ _ _ _ _ _ _ _ _ _ _ _ _ _ _ _ _ _ _ _ _ _ _ _ _ _ _ _ _ _ _ _ _ _ _ _ _ hC2 _ _ hPW hPV hD hS ls (lv_sub hl [1, 2, 3, 0] rfl)
    by_cases c33_23 : z9 = 23
    · skip
      refine lv_tableIn (tgt := 938) (off := 905) hx hb dL_law_33 (by rw [c33_23]; decide) (by rw [c33_23]; decide) (by rw [c33_23]; decide) (by decide) ?_
      refine lv_aload_n hx hb dL_law_938 rfl (lv_at hl 1 rfl) ?_
      refine lv_aload_n hx hb dL_law_939 rfl (lv_at hl 0 rfl) ?_
      refine lv_iload_n hx hb dL_law_940 rfl (lv_at hl 3 rfl) ?_
      refine lv_iconst (v := 1) hx hb dL_law_941 (by decide) ?_
      refine lv_iadd hx hb dL_law_942 ?_
      refine va_sld hx hb hX hbl hbA hS (lwIn 1 hj7 (by omega)) dL_law_943 ?_
      refine kLi hPW hPV hD hS (va_runV (As := [.int (xs ((nI j) + 1).toNatClampNeg)]) (rest := []) ⟨hx, hb, hml, hown, hts⟩ (L_tell l D cI cS hC (wo := wo) (su := su) (xk := xk) (xp := xp) (xw := xw) (ax := ax) (ra := ra) (rp := rp) (rg := rg) (xs ((nI j) + 1).toNatClampNeg)) (cwV 1 hts gL_law_X3_tell rfl rfl rfl q_X3_tell ⟨Nat.le_of_ble_eq_true rfl, Nat.le_of_ble_eq_true rfl⟩) ⟨kBD_blind, cw_recv hK hC hPW, kBD_of hK hPW (kD_left hD) (.ref h1 :: [.int (xs ((nI j) + 1).toNatClampNeg)])⟩ rfl rfl hl.1 rfl (lv_room (Nat.le_of_ble_eq_true rfl)) dL_law_944 ⟨Nat.le_refl _, Nat.le_refl _⟩) (fun Xv H locs hC2 hPW hPV hD hS hfst => ?_)
      refine lv_aload_n hx hb dL_law_947 rfl (lv_at hl 2 rfl) ?_
      refine lv_aload_n hx hb dL_law_948 rfl (lv_at hl 0 rfl) ?_
      refine lv_iload_n hx hb dL_law_949 rfl (lv_at hl 3 rfl) ?_
      refine lv_iconst (v := 1) hx hb dL_law_950 (by decide) ?_
      refine lv_iadd hx hb dL_law_951 ?_
      refine va_sld hx hb hX hbl hbA hS (lwIn 1 hj7 (by omega)) dL_law_952 ?_
      refine kRi (V1 := (wMo cI hm m1 m2 m3 m4 m5 m6 m7 m8 m9 m10 m11 m12 m13 lf ((fX4_tell tr an kd pl (xs ((nI j) + 1).toNatClampNeg)).2) an pn gr ax ra rp rg rd so sl ces kd pl wt xk xp xw wo su ask shw)) hPW hPV hD hS rfl (va_runV (As := [.int (xs ((nI j) + 1).toNatClampNeg)]) (rest := [.int ((fX4_tell tr an kd pl (xs ((nI j) + 1).toNatClampNeg)).1)]) ⟨hx, hb, hml, hown, hts⟩ (c_X4_tell l D cI cS hm m1 m2 m3 m4 m5 m6 m7 m8 m9 m10 m11 m12 m13 lf tr an pn gr ax ra rp rg rd so sl ces kd pl wt xk xp xw wo su ask shw N (xs ((nI j) + 1).toNatClampNeg) (cw_ha hC) (cw_hN hC)) (cwV 1 hts gL_law_X4_tell rfl rfl rfl q_X4_tell ⟨Nat.le_of_ble_eq_true rfl, Nat.le_of_ble_eq_true rfl⟩) ⟨kBD_blind, va_recv hK.1 hPV (ci := 4) (q0 := 0) rfl rfl, kBD_of hK hPV (kD_right hD) (.ref hm :: [.int (xs ((nI j) + 1).toNatClampNeg)])⟩ rfl rfl hl.1 rfl (lv_room (Nat.le_of_ble_eq_true rfl)) dL_law_953 ⟨Nat.le_refl _, Nat.le_refl _⟩) (fun H locs hPW hPV hD hS => ?_)
      refine lv_icmp_eq (tgt := 1066) hx hb dL_law_956 (by decide) (fun c9 => ?_) (fun c9 => absurd rfl c9)
      obtain ⟨N2, P2, R2, hC2⟩ := hC2
      refine lv_iinc (v := nI (j + 7)) (lv' := [(3, .int (nI (j + 7))), (0, .ref b), (1, .ref h1), (2, .ref hm)]) hx hb dL_law_1066 hl (k := 3) rfl (nI_add j 7) (by decide) rfl (fun ls hl => ?_)
      refine lv_goto (tgt := 18) hx hb dL_law_1069 (by decide) ?_
      exact ih0 (j + 7) hj7 (by omega) _ _ _ _ _ _ _ _ _ _ _ _ _ _ _ _ _ _ _ _ _ _ _ _ _ _ _ _ _ _ _ _ _ _ _ _ _ _ _ _ _ _ hC2 _ _ hPW hPV hD hS ls (lv_sub hl [1, 2, 3, 0] rfl)
    by_cases c33_24 : z9 = 24
    · skip
      refine lv_tableIn (tgt := 961) (off := 928) hx hb dL_law_33 (by rw [c33_24]; decide) (by rw [c33_24]; decide) (by rw [c33_24]; decide) (by decide) ?_
      refine lv_aload_n hx hb dL_law_961 rfl (lv_at hl 1 rfl) ?_
      refine lv_aload_n hx hb dL_law_962 rfl (lv_at hl 0 rfl) ?_
      refine lv_iload_n hx hb dL_law_963 rfl (lv_at hl 3 rfl) ?_
      refine lv_iconst (v := 1) hx hb dL_law_964 (by decide) ?_
      refine lv_iadd hx hb dL_law_965 ?_
      refine va_sld hx hb hX hbl hbA hS (lwIn 1 hj7 (by omega)) dL_law_966 ?_
      refine kLi hPW hPV hD hS (va_runV (As := [.int (xs ((nI j) + 1).toNatClampNeg)]) (rest := []) ⟨hx, hb, hml, hown, hts⟩ (L_whisper l D cI cS hC (wo := wo) (su := su) (xk := xk) (xp := xp) (xw := xw) (ax := ax) (ra := ra) (rp := rp) (rg := rg) (xs ((nI j) + 1).toNatClampNeg)) (cwV 1 hts gL_law_X3_whisper rfl rfl rfl q_X3_whisper ⟨Nat.le_of_ble_eq_true rfl, Nat.le_of_ble_eq_true rfl⟩) ⟨kBD_blind, cw_recv hK hC hPW, kBD_of hK hPW (kD_left hD) (.ref h1 :: [.int (xs ((nI j) + 1).toNatClampNeg)])⟩ rfl rfl hl.1 rfl (lv_room (Nat.le_of_ble_eq_true rfl)) dL_law_967 ⟨Nat.le_refl _, Nat.le_refl _⟩) (fun Xv H locs hC2 hPW hPV hD hS hfst => ?_)
      refine lv_aload_n hx hb dL_law_970 rfl (lv_at hl 2 rfl) ?_
      refine lv_aload_n hx hb dL_law_971 rfl (lv_at hl 0 rfl) ?_
      refine lv_iload_n hx hb dL_law_972 rfl (lv_at hl 3 rfl) ?_
      refine lv_iconst (v := 1) hx hb dL_law_973 (by decide) ?_
      refine lv_iadd hx hb dL_law_974 ?_
      refine va_sld hx hb hX hbl hbA hS (lwIn 1 hj7 (by omega)) dL_law_975 ?_
      refine kRi (V1 := (wMo cI hm m1 m2 m3 m4 m5 m6 m7 m8 m9 m10 m11 m12 m13 lf ((fX4_whisper tr an kd (xs ((nI j) + 1).toNatClampNeg)).2) an pn gr ax ra rp rg rd so sl ces kd pl wt xk xp xw wo su ask shw)) hPW hPV hD hS rfl (va_runV (As := [.int (xs ((nI j) + 1).toNatClampNeg)]) (rest := [.int ((fX4_whisper tr an kd (xs ((nI j) + 1).toNatClampNeg)).1)]) ⟨hx, hb, hml, hown, hts⟩ (c_X4_whisper l D cI cS hm m1 m2 m3 m4 m5 m6 m7 m8 m9 m10 m11 m12 m13 lf tr an pn gr ax ra rp rg rd so sl ces kd pl wt xk xp xw wo su ask shw N (xs ((nI j) + 1).toNatClampNeg) (cw_ha hC) (cw_hN hC)) (cwV 1 hts gL_law_X4_whisper rfl rfl rfl q_X4_whisper ⟨Nat.le_of_ble_eq_true rfl, Nat.le_of_ble_eq_true rfl⟩) ⟨kBD_blind, va_recv hK.1 hPV (ci := 4) (q0 := 0) rfl rfl, kBD_of hK hPV (kD_right hD) (.ref hm :: [.int (xs ((nI j) + 1).toNatClampNeg)])⟩ rfl rfl hl.1 rfl (lv_room (Nat.le_of_ble_eq_true rfl)) dL_law_976 ⟨Nat.le_refl _, Nat.le_refl _⟩) (fun H locs hPW hPV hD hS => ?_)
      refine lv_icmp_eq (tgt := 1066) hx hb dL_law_979 (by decide) (fun c9 => ?_) (fun c9 => absurd rfl c9)
      obtain ⟨N2, P2, R2, hC2⟩ := hC2
      refine lv_iinc (v := nI (j + 7)) (lv' := [(3, .int (nI (j + 7))), (0, .ref b), (1, .ref h1), (2, .ref hm)]) hx hb dL_law_1066 hl (k := 3) rfl (nI_add j 7) (by decide) rfl (fun ls hl => ?_)
      refine lv_goto (tgt := 18) hx hb dL_law_1069 (by decide) ?_
      exact ih0 (j + 7) hj7 (by omega) _ _ _ _ _ _ _ _ _ _ _ _ _ _ _ _ _ _ _ _ _ _ _ _ _ _ _ _ _ _ _ _ _ _ _ _ _ _ _ _ _ _ hC2 _ _ hPW hPV hD hS ls (lv_sub hl [1, 2, 3, 0] rfl)
    by_cases c33_25 : z9 = 25
    · skip
      refine lv_tableIn (tgt := 984) (off := 951) hx hb dL_law_33 (by rw [c33_25]; decide) (by rw [c33_25]; decide) (by rw [c33_25]; decide) (by decide) ?_
      refine lv_aload_n hx hb dL_law_984 rfl (lv_at hl 1 rfl) ?_
      refine lv_aload_n hx hb dL_law_985 rfl (lv_at hl 0 rfl) ?_
      refine lv_iload_n hx hb dL_law_986 rfl (lv_at hl 3 rfl) ?_
      refine lv_iconst (v := 1) hx hb dL_law_987 (by decide) ?_
      refine lv_iadd hx hb dL_law_988 ?_
      refine va_sld hx hb hX hbl hbA hS (lwIn 1 hj7 (by omega)) dL_law_989 ?_
      refine lv_aload_n hx hb dL_law_990 rfl (lv_at hl 0 rfl) ?_
      refine lv_iload_n hx hb dL_law_991 rfl (lv_at hl 3 rfl) ?_
      refine lv_iconst (v := 2) hx hb dL_law_992 (by decide) ?_
      refine lv_iadd hx hb dL_law_993 ?_
      refine va_sld hx hb hX hbl hbA hS (lwIn 2 hj7 (by omega)) dL_law_994 ?_
      refine kLi hPW hPV hD hS (va_runV (As := [.int (xs ((nI j) + 1).toNatClampNeg), .int (xs ((nI j) + 2).toNatClampNeg)]) (rest := []) ⟨hx, hb, hml, hown, hts⟩ (L_as l D cI cS hC (wo := wo) (su := su) (xk := xk) (xp := xp) (xw := xw) (ax := ax) (ra := ra) (rp := rp) (rg := rg) (xs ((nI j) + 1).toNatClampNeg) (xs ((nI j) + 2).toNatClampNeg)) (cwV 2 hts gL_law_X3_as rfl rfl rfl q_X3_as ⟨Nat.le_of_ble_eq_true rfl, Nat.le_of_ble_eq_true rfl⟩) ⟨kBD_blind, cw_recv hK hC hPW, kBD_of hK hPW (kD_left hD) (.ref h1 :: [.int (xs ((nI j) + 1).toNatClampNeg), .int (xs ((nI j) + 2).toNatClampNeg)])⟩ rfl rfl hl.1 rfl (lv_room (Nat.le_of_ble_eq_true rfl)) dL_law_995 ⟨Nat.le_refl _, Nat.le_refl _⟩) (fun Xv H locs hC2 hPW hPV hD hS hfst => ?_)
      refine lv_aload_n hx hb dL_law_998 rfl (lv_at hl 2 rfl) ?_
      refine lv_aload_n hx hb dL_law_999 rfl (lv_at hl 0 rfl) ?_
      refine lv_iload_n hx hb dL_law_1000 rfl (lv_at hl 3 rfl) ?_
      refine lv_iconst (v := 1) hx hb dL_law_1001 (by decide) ?_
      refine lv_iadd hx hb dL_law_1002 ?_
      refine va_sld hx hb hX hbl hbA hS (lwIn 1 hj7 (by omega)) dL_law_1003 ?_
      refine lv_aload_n hx hb dL_law_1004 rfl (lv_at hl 0 rfl) ?_
      refine lv_iload_n hx hb dL_law_1005 rfl (lv_at hl 3 rfl) ?_
      refine lv_iconst (v := 2) hx hb dL_law_1006 (by decide) ?_
      refine lv_iadd hx hb dL_law_1007 ?_
      refine va_sld hx hb hX hbl hbA hS (lwIn 2 hj7 (by omega)) dL_law_1008 ?_
      refine kRi (V1 := (wMo cI hm m1 m2 m3 m4 m5 m6 m7 m8 m9 m10 m11 m12 m13 ((fX4_as an kd (xs ((nI j) + 1).toNatClampNeg) (xs ((nI j) + 2).toNatClampNeg)).2) tr an pn gr ax ra rp rg rd so sl ces kd pl wt xk xp xw wo su ask shw)) hPW hPV hD hS rfl (va_runV (As := [.int (xs ((nI j) + 1).toNatClampNeg), .int (xs ((nI j) + 2).toNatClampNeg)]) (rest := [.int ((fX4_as an kd (xs ((nI j) + 1).toNatClampNeg) (xs ((nI j) + 2).toNatClampNeg)).1)]) ⟨hx, hb, hml, hown, hts⟩ (c_X4_as l D cI cS hm m1 m2 m3 m4 m5 m6 m7 m8 m9 m10 m11 m12 m13 lf tr an pn gr ax ra rp rg rd so sl ces kd pl wt xk xp xw wo su ask shw N (xs ((nI j) + 1).toNatClampNeg) (xs ((nI j) + 2).toNatClampNeg) (cw_ha hC) (cw_hN hC)) (cwV 2 hts gL_law_X4_as rfl rfl rfl q_X4_as ⟨Nat.le_of_ble_eq_true rfl, Nat.le_of_ble_eq_true rfl⟩) ⟨kBD_blind, va_recv hK.1 hPV (ci := 4) (q0 := 0) rfl rfl, kBD_of hK hPV (kD_right hD) (.ref hm :: [.int (xs ((nI j) + 1).toNatClampNeg), .int (xs ((nI j) + 2).toNatClampNeg)])⟩ rfl rfl hl.1 rfl (lv_room (Nat.le_of_ble_eq_true rfl)) dL_law_1009 ⟨Nat.le_refl _, Nat.le_refl _⟩) (fun H locs hPW hPV hD hS => ?_)
      refine lv_icmp_eq (tgt := 1066) hx hb dL_law_1012 (by decide) (fun c9 => ?_) (fun c9 => absurd rfl c9)
      obtain ⟨N2, P2, R2, hC2⟩ := hC2
      refine lv_iinc (v := nI (j + 7)) (lv' := [(3, .int (nI (j + 7))), (0, .ref b), (1, .ref h1), (2, .ref hm)]) hx hb dL_law_1066 hl (k := 3) rfl (nI_add j 7) (by decide) rfl (fun ls hl => ?_)
      refine lv_goto (tgt := 18) hx hb dL_law_1069 (by decide) ?_
      exact ih0 (j + 7) hj7 (by omega) _ _ _ _ _ _ _ _ _ _ _ _ _ _ _ _ _ _ _ _ _ _ _ _ _ _ _ _ _ _ _ _ _ _ _ _ _ _ _ _ _ _ hC2 _ _ hPW hPV hD hS ls (lv_sub hl [1, 2, 3, 0] rfl)
    by_cases c33_26 : z9 = 26
    · skip
      refine lv_tableIn (tgt := 1017) (off := 984) hx hb dL_law_33 (by rw [c33_26]; decide) (by rw [c33_26]; decide) (by rw [c33_26]; decide) (by decide) ?_
      refine lv_aload_n hx hb dL_law_1017 rfl (lv_at hl 1 rfl) ?_
      refine kLi hPW hPV hD hS (va_runV (As := []) (rest := []) ⟨hx, hb, hml, hown, hts⟩ (L_trace l D cI cS hC (wo := wo) (su := su) (xk := xk) (xp := xp) (xw := xw) (ax := ax) (ra := ra) (rp := rp) (rg := rg) ) (cwV 0 hts gL_law_X3_trace rfl rfl rfl q_X3_trace ⟨Nat.le_of_ble_eq_true rfl, Nat.le_of_ble_eq_true rfl⟩) ⟨kBD_blind, cw_recv hK hC hPW, kBD_of hK hPW (kD_left hD) (.ref h1 :: [])⟩ rfl rfl hl.1 rfl (lv_room (Nat.le_of_ble_eq_true rfl)) dL_law_1018 ⟨Nat.le_refl _, Nat.le_refl _⟩) (fun Xv H locs hC2 hPW hPV hD hS hfst => ?_)
      refine lv_aload_n hx hb dL_law_1021 rfl (lv_at hl 2 rfl) ?_
      refine kRi (V1 := (wMo cI hm m1 m2 m3 m4 m5 m6 m7 m8 m9 m10 m11 m12 m13 lf tr an pn gr ax ra rp rg rd so sl ces kd pl wt xk xp xw wo su ask shw)) hPW hPV hD hS rfl (va_runV (As := []) (rest := [.int (fX4_trace tr)]) ⟨hx, hb, hml, hown, hts⟩ (RMi.pure (c_X4_trace l D cI cS hm m1 m2 m3 m4 m5 m6 m7 m8 m9 m10 m11 m12 m13 lf tr an pn gr ax ra rp rg rd so sl ces kd pl wt xk xp xw wo su ask shw)) (cwV 0 hts gL_law_X4_trace rfl rfl rfl q_X4_trace ⟨Nat.le_of_ble_eq_true rfl, Nat.le_of_ble_eq_true rfl⟩) ⟨kBD_blind, va_recv hK.1 hPV (ci := 4) (q0 := 0) rfl rfl, kBD_of hK hPV (kD_right hD) (.ref hm :: [])⟩ rfl rfl hl.1 rfl (lv_room (Nat.le_of_ble_eq_true rfl)) dL_law_1022 ⟨Nat.le_refl _, Nat.le_refl _⟩) (fun H locs hPW hPV hD hS => ?_)
      refine lv_icmp_eq (tgt := 1066) hx hb dL_law_1025 (by decide) (fun c9 => ?_) (fun c9 => absurd rfl c9)
      obtain ⟨N2, P2, R2, hC2⟩ := hC2
      refine lv_iinc (v := nI (j + 7)) (lv' := [(3, .int (nI (j + 7))), (0, .ref b), (1, .ref h1), (2, .ref hm)]) hx hb dL_law_1066 hl (k := 3) rfl (nI_add j 7) (by decide) rfl (fun ls hl => ?_)
      refine lv_goto (tgt := 18) hx hb dL_law_1069 (by decide) ?_
      exact ih0 (j + 7) hj7 (by omega) _ _ _ _ _ _ _ _ _ _ _ _ _ _ _ _ _ _ _ _ _ _ _ _ _ _ _ _ _ _ _ _ _ _ _ _ _ _ _ _ _ _ hC2 _ _ hPW hPV hD hS ls (lv_sub hl [1, 2, 3, 0] rfl)
    by_cases c33_27 : z9 = 27
    · skip
      refine lv_tableIn (tgt := 1030) (off := 997) hx hb dL_law_33 (by rw [c33_27]; decide) (by rw [c33_27]; decide) (by rw [c33_27]; decide) (by decide) ?_
      refine lv_aload_n hx hb dL_law_1030 rfl (lv_at hl 1 rfl) ?_
      refine kLi hPW hPV hD hS (va_runV (As := []) (rest := []) ⟨hx, hb, hml, hown, hts⟩ (L_fault l D cI cS hC (wo := wo) (su := su) (xk := xk) (xp := xp) (xw := xw) (ax := ax) (ra := ra) (rp := rp) (rg := rg) ) (cwV 0 hts gL_law_X3_fault rfl rfl rfl q_X3_fault ⟨Nat.le_of_ble_eq_true rfl, Nat.le_of_ble_eq_true rfl⟩) ⟨kBD_blind, cw_recv hK hC hPW, kBD_of hK hPW (kD_left hD) (.ref h1 :: [])⟩ rfl rfl hl.1 rfl (lv_room (Nat.le_of_ble_eq_true rfl)) dL_law_1031 ⟨Nat.le_refl _, Nat.le_refl _⟩) (fun Xv H locs hC2 hPW hPV hD hS hfst => ?_)
      refine lv_aload_n hx hb dL_law_1034 rfl (lv_at hl 2 rfl) ?_
      refine kRi (V1 := (wMo cI hm m1 m2 m3 m4 m5 m6 m7 m8 m9 m10 m11 m12 m13 lf tr an pn gr ax ra rp rg rd so sl ces kd pl wt xk xp xw wo su ask shw)) hPW hPV hD hS rfl (va_runV (As := []) (rest := [.int (fX4_fault lf)]) ⟨hx, hb, hml, hown, hts⟩ (RMi.pure (c_X4_fault l D cI cS hm m1 m2 m3 m4 m5 m6 m7 m8 m9 m10 m11 m12 m13 lf tr an pn gr ax ra rp rg rd so sl ces kd pl wt xk xp xw wo su ask shw)) (cwV 0 hts gL_law_X4_fault rfl rfl rfl q_X4_fault ⟨Nat.le_of_ble_eq_true rfl, Nat.le_of_ble_eq_true rfl⟩) ⟨kBD_blind, va_recv hK.1 hPV (ci := 4) (q0 := 0) rfl rfl, kBD_of hK hPV (kD_right hD) (.ref hm :: [])⟩ rfl rfl hl.1 rfl (lv_room (Nat.le_of_ble_eq_true rfl)) dL_law_1035 ⟨Nat.le_refl _, Nat.le_refl _⟩) (fun H locs hPW hPV hD hS => ?_)
      refine lv_icmp_eq (tgt := 1066) hx hb dL_law_1038 (by decide) (fun c9 => ?_) (fun c9 => absurd rfl c9)
      obtain ⟨N2, P2, R2, hC2⟩ := hC2
      refine lv_iinc (v := nI (j + 7)) (lv' := [(3, .int (nI (j + 7))), (0, .ref b), (1, .ref h1), (2, .ref hm)]) hx hb dL_law_1066 hl (k := 3) rfl (nI_add j 7) (by decide) rfl (fun ls hl => ?_)
      refine lv_goto (tgt := 18) hx hb dL_law_1069 (by decide) ?_
      exact ih0 (j + 7) hj7 (by omega) _ _ _ _ _ _ _ _ _ _ _ _ _ _ _ _ _ _ _ _ _ _ _ _ _ _ _ _ _ _ _ _ _ _ _ _ _ _ _ _ _ _ hC2 _ _ hPW hPV hD hS ls (lv_sub hl [1, 2, 3, 0] rfl)
    by_cases c33_28 : z9 = 28
    · skip
      refine lv_tableIn (tgt := 1043) (off := 1010) hx hb dL_law_33 (by rw [c33_28]; decide) (by rw [c33_28]; decide) (by rw [c33_28]; decide) (by decide) ?_
      refine lv_aload_n hx hb dL_law_1043 rfl (lv_at hl 1 rfl) ?_
      refine lv_aload_n hx hb dL_law_1044 rfl (lv_at hl 0 rfl) ?_
      refine lv_iload_n hx hb dL_law_1045 rfl (lv_at hl 3 rfl) ?_
      refine lv_iconst (v := 1) hx hb dL_law_1046 (by decide) ?_
      refine lv_iadd hx hb dL_law_1047 ?_
      refine va_sld hx hb hX hbl hbA hS (lwIn 1 hj7 (by omega)) dL_law_1048 ?_
      refine kLi hPW hPV hD hS (va_runV (As := [.int (xs ((nI j) + 1).toNatClampNeg)]) (rest := []) ⟨hx, hb, hml, hown, hts⟩ (L_many l D cI cS hC (wo := wo) (su := su) (xk := xk) (xp := xp) (xw := xw) (ax := ax) (ra := ra) (rp := rp) (rg := rg) (xs ((nI j) + 1).toNatClampNeg)) (cwV 1 hts gL_law_X3_many rfl rfl rfl q_X3_many ⟨Nat.le_of_ble_eq_true rfl, Nat.le_of_ble_eq_true rfl⟩) ⟨kBD_blind, cw_recv hK hC hPW, kBD_of hK hPW (kD_left hD) (.ref h1 :: [.int (xs ((nI j) + 1).toNatClampNeg)])⟩ rfl rfl hl.1 rfl (lv_room (Nat.le_of_ble_eq_true rfl)) dL_law_1049 ⟨Nat.le_refl _, Nat.le_refl _⟩) (fun Xv H locs hC2 hPW hPV hD hS hfst => ?_)
      refine lv_aload_n hx hb dL_law_1052 rfl (lv_at hl 2 rfl) ?_
      refine lv_aload_n hx hb dL_law_1053 rfl (lv_at hl 0 rfl) ?_
      refine lv_iload_n hx hb dL_law_1054 rfl (lv_at hl 3 rfl) ?_
      refine lv_iconst (v := 1) hx hb dL_law_1055 (by decide) ?_
      refine lv_iadd hx hb dL_law_1056 ?_
      refine va_sld hx hb hX hbl hbA hS (lwIn 1 hj7 (by omega)) dL_law_1057 ?_
      refine kRi (V1 := (wMo cI hm m1 m2 m3 m4 m5 m6 m7 m8 m9 m10 m11 m12 m13 lf tr an pn gr ax ra rp rg rd so sl ces kd pl wt xk xp xw wo su ask shw)) hPW hPV hD hS rfl (va_runV (As := [.int (xs ((nI j) + 1).toNatClampNeg)]) (rest := [.int (fX4_many an pn gr rd (xs ((nI j) + 1).toNatClampNeg))]) ⟨hx, hb, hml, hown, hts⟩ (RMi.pure (c_X4_many l D cI cS hm m1 m2 m3 m4 m5 m6 m7 m8 m9 m10 m11 m12 m13 lf tr an pn gr ax ra rp rg rd so sl ces kd pl wt xk xp xw wo su ask shw (xs ((nI j) + 1).toNatClampNeg))) (cwV 1 hts gL_law_X4_many rfl rfl rfl q_X4_many ⟨Nat.le_of_ble_eq_true rfl, Nat.le_of_ble_eq_true rfl⟩) ⟨kBD_blind, va_recv hK.1 hPV (ci := 4) (q0 := 0) rfl rfl, kBD_of hK hPV (kD_right hD) (.ref hm :: [.int (xs ((nI j) + 1).toNatClampNeg)])⟩ rfl rfl hl.1 rfl (lv_room (Nat.le_of_ble_eq_true rfl)) dL_law_1058 ⟨Nat.le_refl _, Nat.le_refl _⟩) (fun H locs hPW hPV hD hS => ?_)
      refine lv_icmp_eq (tgt := 1066) hx hb dL_law_1061 (by decide) (fun c9 => ?_) (fun c9 => absurd rfl c9)
      obtain ⟨N2, P2, R2, hC2⟩ := hC2
      refine lv_iinc (v := nI (j + 7)) (lv' := [(3, .int (nI (j + 7))), (0, .ref b), (1, .ref h1), (2, .ref hm)]) hx hb dL_law_1066 hl (k := 3) rfl (nI_add j 7) (by decide) rfl (fun ls hl => ?_)
      refine lv_goto (tgt := 18) hx hb dL_law_1069 (by decide) ?_
      exact ih0 (j + 7) hj7 (by omega) _ _ _ _ _ _ _ _ _ _ _ _ _ _ _ _ _ _ _ _ _ _ _ _ _ _ _ _ _ _ _ _ _ _ _ _ _ _ _ _ _ _ hC2 _ _ hPW hPV hD hS ls (lv_sub hl [1, 2, 3, 0] rfl)
    refine lv_tableOut (tgt := 1066) hx hb dL_law_33 (by have h0 := lv_neT (k := 0) (a := 0) c33_0 rfl; have h1 := lv_neT (k := 1) (a := 1) c33_1 rfl; have h2 := lv_neT (k := 2) (a := 2) c33_2 rfl; have h3 := lv_neT (k := 3) (a := 3) c33_3 rfl; have h4 := lv_neT (k := 4) (a := 4) c33_4 rfl; have h5 := lv_neT (k := 5) (a := 5) c33_5 rfl; have h6 := lv_neT (k := 6) (a := 6) c33_6 rfl; have h7 := lv_neT (k := 7) (a := 7) c33_7 rfl; have h8 := lv_neT (k := 8) (a := 8) c33_8 rfl; have h9 := lv_neT (k := 9) (a := 9) c33_9 rfl; have h10 := lv_neT (k := 10) (a := 10) c33_10 rfl; have h11 := lv_neT (k := 11) (a := 11) c33_11 rfl; have h12 := lv_neT (k := 12) (a := 12) c33_12 rfl; have h13 := lv_neT (k := 13) (a := 13) c33_13 rfl; have h14 := lv_neT (k := 14) (a := 14) c33_14 rfl; have h15 := lv_neT (k := 15) (a := 15) c33_15 rfl; have h16 := lv_neT (k := 16) (a := 16) c33_16 rfl; have h17 := lv_neT (k := 17) (a := 17) c33_17 rfl; have h18 := lv_neT (k := 18) (a := 18) c33_18 rfl; have h19 := lv_neT (k := 19) (a := 19) c33_19 rfl; have h20 := lv_neT (k := 20) (a := 20) c33_20 rfl; have h21 := lv_neT (k := 21) (a := 21) c33_21 rfl; have h22 := lv_neT (k := 22) (a := 22) c33_22 rfl; have h23 := lv_neT (k := 23) (a := 23) c33_23 rfl; have h24 := lv_neT (k := 24) (a := 24) c33_24 rfl; have h25 := lv_neT (k := 25) (a := 25) c33_25 rfl; have h26 := lv_neT (k := 26) (a := 26) c33_26 rfl; have h27 := lv_neT (k := 27) (a := 27) c33_27 rfl; have h28 := lv_neT (k := 28) (a := 28) c33_28 rfl; omega) (by decide) ?_
    refine lv_iinc (v := nI (j + 7)) (lv' := [(3, .int (nI (j + 7))), (0, .ref b), (1, .ref h1), (2, .ref hm)]) hx hb dL_law_1066 hl (k := 3) rfl (nI_add j 7) (by decide) rfl (fun ls hl => ?_)
    refine lv_goto (tgt := 18) hx hb dL_law_1069 (by decide) ?_
    exact ih0 (j + 7) hj7 (by omega) _ _ _ _ _ _ _ _ _ _ _ _ _ _ _ _ _ _ _ _ _ _ _ _ _ _ _ _ _ _ _ _ _ _ _ _ _ _ _ _ _ _ hC _ _ hPW hPV hD hS ls (lv_sub hl [1, 2, 3, 0] rfl)
