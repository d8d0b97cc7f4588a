theorem wsL_r1 {w : Cond} (h : w ∈ wsL_law_r1) : w ∈ wsL_law := List.mem_append_left _ (List.mem_append_left _ (List.mem_append_left _ (List.mem_append_left _ (List.mem_append_left _ (List.mem_append_left _ (List.mem_append_left _ h))))))
/-- the classes and the arrays' classes at the start -/
theorem kK_start {s : State} {b : Nat} (hts0 : ∀ w ∈ lw_tbl, w.before #[Value.ref b] s = true) : ∃ (D : va_G) (cI cS : ClassId), kK D cI cS s ∧ va_AO RX2 s := by
  obtain ⟨d0, i0, k0⟩ := u_known hts0 inX0 (hts0 (.instantiable RX0 5) (by decide +kernel))
  obtain ⟨d1, i1, k1⟩ := u_known hts0 inX1 (hts0 (.instantiable RX1 6) (by decide +kernel))
  obtain ⟨d2, i2, k2⟩ := u_known hts0 inX2 (hts0 (.instantiable RX2 3) (by decide +kernel))
  obtain ⟨d3, i3, k3⟩ := u_known hts0 inX3 (hts0 (.instantiable RX3 10) (by decide +kernel))
  obtain ⟨d4, i4, k4⟩ := u_known hts0 inX4 (hts0 (.instantiable RX4 23) (by decide +kernel))
  obtain ⟨cI, kI, compI, f1, f2, f3⟩ := Cond.arrayClass_spec (type := .int) (hts0 (.arrayClass .int) (by decide +kernel))
  have hO : va_AO RX2 s := va_AO.of (hts0 (.arrayOver (.object RX2)) (by decide +kernel))
  obtain ⟨compS, cS, kS, g1, g2, g3, g4, g5⟩ := Cond.arrayOver_spec hO
  refine ⟨(fun c => match c with | 0 => d0 | 1 => d1 | 2 => d2 | 3 => d3 | _ => d4, fun c => match c with | 0 => i0 | 1 => i1 | 2 => i2 | 3 => i3 | _ => i4), cI, cS, ⟨⟨fun c q hq => ?_, fun k q hk => ?_⟩, fun q hq => ?_⟩, hO⟩
  · match c, hq with
    | 0, hq => cases hq; exact k0
    | 1, hq => cases hq; exact k1
    | 2, hq => cases hq; exact k2
    | 3, hq => cases hq; exact k3
    | 4, hq => cases hq; exact k4
    | c + 5, hq => cases hq
  · match k, hk with
    | 0, hk => cases hk; exact ⟨fun n z => ⟨fun k h => (by cases h), kI, f2, compI, f3⟩, f1⟩
    | 1, hk => cases hk; exact ⟨fun n z => ⟨fun k h => (by cases h), kS, g3, compS, g4⟩, kS, compS, g3, g4, g1, g5⟩
    | k + 2, hk => cases hk
  · simp only [kNst, List.mem_cons, List.not_mem_nil, or_false] at hq
    rcases hq with rfl | rfl | rfl | rfl | rfl | rfl | rfl | rfl | rfl | rfl | rfl
    all_goals exact va_Nw.of rfl (hts0 _ (by decide +kernel))
abbrev zF : Nat → Int32 := fun _ => 0
abbrev soR : Nat → Int32 := upd (upd (upd (upd (fun _ => 0) 0 (-9)) 1 (-9)) 2 (-9)) 3 (-9)
abbrev f4 (a b c d : Nat) : Nat → Nat := fun j => match j with | 0 => a | 1 => b | 2 => c | _ => d
abbrev sf4 (a b c d : Nat) : Nat → Option Nat := va_up (va_up (va_up (va_up (fun _ => none) 0 (some a)) 1 (some b)) 2 (some c)) 3 (some d)
theorem CW_start (cI cS : ClassId) (h1 sa p0 p1 p2 p3 p4 aa ab q0 q1 q2 q3 b0 b1 b2 b3 o0 c0 o1 c1 o2 c2 o3 c3 : Nat) : CW cI cS h1 (wL25 cI cS h1 sa p0 aa ab q0 q1 q2 q3 b0 b1 b2 b3 p1 p2 p3 p4 (f4 o0 o1 o2 o3) (f4 c0 c1 c2 c3) (sf4 o0 o1 o2 o3) 1 0 0 0 zF zF 0 0 0 zF zF zF 0 0 0 zF zF zF zF zF zF zF 0 (fun _ => -1) zF (fun _ => zF)) 0 0 0 0 0 0 soR zF zF zF zF zF zF zF 0 0 0 := by
  refine ⟨sa, p0, aa, ab, q0, q1, q2, q3, b0, b1, b2, b3, p1, p2, p3, p4, f4 o0 o1 o2 o3, f4 c0 c1 c2 c3, sf4 o0 o1 o2 o3, 1, zF, zF, zF, zF, zF, 0, 0, 0, zF, zF, zF, zF, zF, zF, zF, 0, fun _ => -1, zF, fun _ => zF, rfl, ?_, ⟨rfl, by decide, fun j h => absurd h (Nat.not_lt_zero _)⟩, ⟨rfl, by decide, fun j h => absurd h (Nat.not_lt_zero _)⟩, ⟨rfl, by decide, fun j h => absurd h (Nat.not_lt_zero _)⟩, ?_, ⟨rfl, rfl, .inl rfl⟩⟩
  · intro j hj
    rcases (show j = 0 ∨ j = 1 ∨ j = 2 ∨ j = 3 by omega) with rfl | rfl | rfl | rfl <;> rfl
  · intro j hj
    refine ⟨⟨0, by decide, rfl⟩, .inl ⟨rfl, ?_, rfl⟩⟩
    rcases (show j = 0 ∨ j = 1 ∨ j = 2 ∨ j = 3 by omega) with rfl | rfl | rfl | rfl <;> rfl
set_option maxHeartbeats 4000000 in
theorem whole_start {p : Program} {e : Env} {s : State} {m : MethodId} {below : List Frame} {meth : Method} {c : Code} (l : Launch) (hflags : l.flags = flags0) {b L : Nat} {xs : Nat → Int32} (hL : L ≤ 448) (C0 : lw_At p s m meth c b L xs) : W p l e room_1 s m #[Value.ref b] below meth c s.heap [] 0 0 (lw_Z below #[Value.ref b] s) (entryFrame m ([Value.ref b] : List Value).toArray 4) := by
  have C1 := C0
  obtain ⟨hx, hb, hr, hml, hown, hts0, hX, hbl, hlocks, hgv⟩ := C1
  have hts : ∀ w ∈ wsL_law, w.before #[Value.ref b] s = true := fun w h => hts0 w (wsL_law_in w h)
  have hown : s.vm.findClass RL = some m.cls := hown
  obtain ⟨D, cI, cS, hK, hO⟩ := kK_start hts0
  have hA : ∀ q : Nat, s.heap.size ≤ q → (fun q : Nat => s.heap.size ≤ q) q := fun q h => h
  have hP : va_P D vwCl [] s.heap := fun k q h => by cases h
  have hD : va_D (fun q : Nat => s.heap.size ≤ q) [] := ⟨fun i j p q h => (by cases h), fun k q h => (by cases h)⟩
  have hS : va_S (fun q : Nat => s.heap.size ≤ q) s.heap s.heap [] := va_S.rf
  rw [lg_entry_eq]
  have hl : lv_has _ 4 (lv_args 0 [Value.ref b]) := lv_entry [Value.ref b] (Nat.le_of_ble_eq_true rfl)
  refine va_new (ci := 3) (fs := [.null, .null, .null, .null, .null, .null, .int 0, .int 0, .int 0, .int 0]) (C := RX3) (T := TX3) (N := 10) hx hb hts inlX3 tyX3 tyX3_ok hown (hts (.classLink RL 7 RX3) (wsL_r1 (List.mem_of_getElem? (i := 0) rfl))) (hts (.instantiable RX3 10) (wsL_r1 (List.mem_of_getElem? (i := 1) rfl))) (hts (.initialized RX3) (wsL_r1 (List.mem_of_getElem? (i := 2) rfl))) hK.1 hP hD hS hA rfl (fun j hj => by rcases (show j = 0 ∨ j = 1 ∨ j = 2 ∨ j = 3 ∨ j = 4 ∨ j = 5 ∨ j = 6 ∨ j = 7 ∨ j = 8 ∨ j = 9 by omega) with rfl | rfl | rfl | rfl | rfl | rfl | rfl | rfl | rfl | rfl <;> rfl) (Nat.le_of_ble_eq_true rfl) (Nat.le_of_ble_eq_true rfl) dL_law_0 (fun h1 H hP hD hS => ?_)
  refine lv_dup hx hb dL_law_3 rfl ?_
  refine kIv hP hD hS hA [0] [] (wr := []) rfl rfl rfl (by decide) (va_runI (As := []) (rest := [.ref h1]) ⟨hx, hb, hml, hown, hts⟩ (c_X3_init l D cI cS h1 H.size) (cwI 0 hts gL_law_X3_init rfl rfl rfl (hts (.initialized RX3) (wsL_r1 (List.mem_of_getElem? (i := 2) rfl))) (hts (.methodLink RL 9 yX3_init) (wsL_r1 (List.mem_of_getElem? (i := 6) rfl))) (hts (.instanceMethod yX3_init) (wsL_r1 (List.mem_of_getElem? (i := 7) rfl))) rfl q_X3_init.2 ⟨Nat.le_of_ble_eq_true rfl, Nat.le_of_ble_eq_true rfl⟩) (kIS hK hO hP hD [0] rfl rfl []) rfl rfl hl.1 rfl (lv_room (Nat.le_of_ble_eq_true rfl)) dL_law_4 ⟨Nat.le_of_ble_eq_true rfl, Nat.le_of_ble_eq_true rfl⟩) (fun u H locs hP hD hS => ?_)
  obtain ⟨sa, p0, p1, p2, p3, p4, aa, ab, q0, q1, q2, q3, b0, b1, b2, b3, o0, c0, o1, c1, o2, c2, o3, c3⟩ := u
  have hC := CW_start cI cS h1 sa p0 p1 p2 p3 p4 aa ab q0 q1 q2 q3 b0 b1 b2 b3 o0 c0 o1 c1 o2 c2 o3 c3
  have hP : va_P D vwCl (wL25 cI cS h1 sa p0 aa ab q0 q1 q2 q3 b0 b1 b2 b3 p1 p2 p3 p4 (f4 o0 o1 o2 o3) (f4 c0 c1 c2 c3) (sf4 o0 o1 o2 o3) 1 0 0 0 zF zF 0 0 0 zF zF zF 0 0 0 zF zF zF zF zF zF zF 0 (fun _ => -1) zF (fun _ => zF)) H := hP
  have hD : va_D (fun q : Nat => s.heap.size ≤ q) (wL25 cI cS h1 sa p0 aa ab q0 q1 q2 q3 b0 b1 b2 b3 p1 p2 p3 p4 (f4 o0 o1 o2 o3) (f4 c0 c1 c2 c3) (sf4 o0 o1 o2 o3) 1 0 0 0 zF zF 0 0 0 zF zF zF 0 0 0 zF zF zF zF zF zF zF 0 (fun _ => -1) zF (fun _ => zF)) := hD
  refine lv_astore_n (lv' := [(1, .ref h1), (0, .ref b)]) hx hb dL_law_7 rfl hl (by decide) rfl (fun ls hl => ?_)
  refine va_new (ci := 4) (fs := [.int 0, .int 0, .null, .null, .null, .int 0, .int 0, .int 0, .null, .null, .null, .int 0, .int 0, .int 0, .int 0, .null, .null, .null, .null, .null, .int 0, .null, .null]) (C := RX4) (T := TX4) (N := 23) hx hb hts inlX4 tyX4 tyX4_ok hown (hts (.classLink RL 10 RX4) (wsL_r1 (List.mem_of_getElem? (i := 3) rfl))) (hts (.instantiable RX4 23) (wsL_r1 (List.mem_of_getElem? (i := 4) rfl))) (hts (.initialized RX4) (wsL_r1 (List.mem_of_getElem? (i := 5) rfl))) hK.1 hP hD hS hA rfl (fun j hj => by rcases (show j = 0 ∨ j = 1 ∨ j = 2 ∨ j = 3 ∨ j = 4 ∨ j = 5 ∨ j = 6 ∨ j = 7 ∨ j = 8 ∨ j = 9 ∨ j = 10 ∨ j = 11 ∨ j = 12 ∨ j = 13 ∨ j = 14 ∨ j = 15 ∨ j = 16 ∨ j = 17 ∨ j = 18 ∨ j = 19 ∨ j = 20 ∨ j = 21 ∨ j = 22 by omega) with rfl | rfl | rfl | rfl | rfl | rfl | rfl | rfl | rfl | rfl | rfl | rfl | rfl | rfl | rfl | rfl | rfl | rfl | rfl | rfl | rfl | rfl | rfl <;> rfl) (Nat.le_of_ble_eq_true rfl) (Nat.le_of_ble_eq_true rfl) dL_law_8 (fun hm H hP hD hS => ?_)
  refine lv_dup hx hb dL_law_11 rfl ?_
  refine kIv hP hD hS hA [25] [0, 1, 2, 3, 4, 5, 6, 7, 8, 9, 10, 11, 12, 13, 14, 15, 16, 17, 18, 19, 20, 21, 22, 23, 24] (wr := wL25 cI cS h1 sa p0 aa ab q0 q1 q2 q3 b0 b1 b2 b3 p1 p2 p3 p4 (f4 o0 o1 o2 o3) (f4 c0 c1 c2 c3) (sf4 o0 o1 o2 o3) 1 0 0 0 zF zF 0 0 0 zF zF zF 0 0 0 zF zF zF zF zF zF zF 0 (fun _ => -1) zF (fun _ => zF)) rfl rfl rfl (by decide) (va_runI (As := []) (rest := [.ref hm]) ⟨hx, hb, hml, hown, hts⟩ (c_X4_init l D cI cS hm H.size) (cwI 0 hts gL_law_X4_init rfl rfl rfl (hts (.initialized RX4) (wsL_r1 (List.mem_of_getElem? (i := 5) rfl))) (hts0 (.methodLink RL 12 yX4_init) (by decide +kernel)) (hts0 (.instanceMethod yX4_init) (by decide +kernel)) rfl q_X4_init.2 ⟨Nat.le_of_ble_eq_true rfl, Nat.le_of_ble_eq_true rfl⟩) (kIS hK hO hP hD [25] rfl rfl []) rfl rfl hl.1 rfl (lv_room (Nat.le_of_ble_eq_true rfl)) dL_law_12 ⟨Nat.le_of_ble_eq_true rfl, Nat.le_of_ble_eq_true rfl⟩) (fun u H locs hP hD hS => ?_)
  obtain ⟨m1, m2, m3, m4, m5, m6, m7, m8, m9, m10, m11, m12, m13⟩ := u
  refine lv_astore_n (lv' := [(2, .ref hm), (1, .ref h1), (0, .ref b)]) hx hb dL_law_15 rfl hl (by decide) rfl (fun ls hl => ?_)
  refine lv_iconst (v := 0) hx hb dL_law_16 (by decide) ?_
  refine lv_istore_n (lv' := [(3, .int 0), (2, .ref hm), (1, .ref h1), (0, .ref b)]) hx hb dL_law_17 rfl hl (by decide) rfl (fun ls hl => ?_)
  refine W.widen (k := 600000) (n := 7302250) (Nat.le_of_ble_eq_true rfl) (Nat.le_of_ble_eq_true rfl) ?_
  have hPW : va_P D vwCl (wL25 cI cS h1 sa p0 aa ab q0 q1 q2 q3 b0 b1 b2 b3 p1 p2 p3 p4 (f4 o0 o1 o2 o3) (f4 c0 c1 c2 c3) (sf4 o0 o1 o2 o3) 1 0 0 0 zF zF 0 0 0 zF zF zF 0 0 0 zF zF zF zF zF zF zF 0 (fun _ => -1) zF (fun _ => zF)) H := va_P.left hP
  have hPV : va_P D vwCl (wMo cI hm m1 m2 m3 m4 m5 m6 m7 m8 m9 m10 m11 m12 m13 0 0 0 0 0 0 0 0 0 0 soR zF zF zF zF zF zF zF zF zF zF zF zF) H := va_P.right hP
  exact law_loop hL C0 hK (L + 1) 0 (Nat.zero_le _) (by omega) h1 hm m1 m2 m3 m4 m5 m6 m7 m8 m9 m10 m11 m12 m13 _ 0 0 0 0 0 0 0 0 0 0 soR zF zF zF zF zF zF zF zF zF zF zF zF 0 0 0 hC H locs hPW hPV hD hS ls (lv_sub hl [3, 2, 1, 0] rfl)
