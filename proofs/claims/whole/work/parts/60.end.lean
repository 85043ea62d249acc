/-! the law from its entry -/
theorem zStr {s : State} {A : Array Value} {k : Nat} {tx : String} (h1 : (Cond.stringRef RX0 k tx).before A s = true) (h2 : (Cond.exactly (.string RX0 k) "java/lang/String").before A s = true) : ∃ a : Nat, vk_R RX0 k tx a s := by
  obtain ⟨a, c, cA, kA, q1, -⟩ := Cond.exactly_spec (args := A) (first := s) (o := none) (s := s) (idx := []) h2
  exact ⟨a, vk_R.of h1 q1⟩
set_option maxRecDepth 100000 in
set_option maxHeartbeats 4000000 in
theorem zEnv_of {s : State} {A : Array Value} (hts : ∀ w ∈ lw_tbl, w.before A s = true) (hgv : (Jvm.Cond.and given_1 narrow_1).before A s = true) : zEnv s.heap.size s := by
  have hf := flat_of_before _ hgv
  have hA : ∀ a : Nat, a < s.heap.size → ¬ zA s.heap.size a := fun a h q => absurd q (Nat.not_le.mpr h)
  have hE : ∀ j : Nat, j < 7 → (Term.elem (Term.static "TunedWrens" "STEPS" "[I") (.int (Int32.ofNat j))).eval A s none [] s = some (.int (nI (zST j))) := by
    intro j hj
    refine va_eqt ?_
    rcases (show j = 0 ∨ j = 1 ∨ j = 2 ∨ j = 3 ∨ j = 4 ∨ j = 5 ∨ j = 6 by omega) with rfl | rfl | rfl | rfl | rfl | rfl | rfl <;> exact hf _ (by decide +kernel)
  obtain ⟨t, ht, hT⟩ := va_Tof (tm := .static "TunedWrens" "STEPS" "[I") (ty := .int) (N := 7) (f := fun j => .int (nI (zST j))) (A := zA s.heap.size) (by decide) (hf _ (by decide +kernel)) (va_eqt (z := Int32.ofNat 7) (hf _ (by decide +kernel))) hE hA
  refine ⟨⟨t, va_Zref (hts (.laysStatic "TunedWrens" "STEPS" "[I") (by decide +kernel)) (hts (.initialized "TunedWrens") (by decide +kernel)) ht hA, hT⟩, vx_Zqof (hts (.laysStatic Bundle.tN "UNASSIGNED_STACK" Bundle.steD) (by decide +kernel)) (hts (.initialized Bundle.tN) (by decide +kernel)) (hf (.isRef (.static Bundle.tN "UNASSIGNED_STACK" Bundle.steD)) (by decide +kernel)) hA, vx_Zqof (hts (.laysStatic Bundle.tN "SUPPRESSED_SENTINEL" Bundle.listD) (by decide +kernel)) (hts (.initialized Bundle.tN) (by decide +kernel)) (hf (.isRef (.static Bundle.tN "SUPPRESSED_SENTINEL" Bundle.listD)) (by decide +kernel)) hA, ?_, ?_, ?_, ?_, ?_, ?_, ?_⟩
  · exact zStr (hts (.stringRef RX0 108 "out of range") (by decide +kernel)) (hf (.exactly (.string RX0 108) "java/lang/String") (by decide +kernel))
  · exact zStr (hts (.stringRef RX0 104 "no such wren") (by decide +kernel)) (hf (.exactly (.string RX0 104) "java/lang/String") (by decide +kernel))
  · exact zStr (hts (.stringRef RX0 77 "no such rung") (by decide +kernel)) (hf (.exactly (.string RX0 77) "java/lang/String") (by decide +kernel))
  · exact zStr (hts (.stringRef RX0 95 "no such semitone") (by decide +kernel)) (hf (.exactly (.string RX0 95) "java/lang/String") (by decide +kernel))
  · exact va_Nc.of (hf (.not (.castable xI xO)) (by decide +kernel))
  · exact va_Nc.of (hf (.not (.castable xO xI)) (by decide +kernel))
  · exact ⟨va_Nw.of rfl (hts (.castable xI xI) (by decide +kernel)), va_Nw.of rfl (hts (.castable xO xO) (by decide +kernel)), va_Nw.of rfl (hts (.declares (Bundle.initS "java/lang/RuntimeException")) (by decide +kernel)), va_Nw.of rfl (hts (.declares (Bundle.initS "java/lang/Exception")) (by decide +kernel)), va_Nw.of rfl (hts (.declares (Bundle.initS Bundle.tN)) (by decide +kernel))⟩
theorem zKn {s : State} {A : Array Value} (hts : ∀ w ∈ lw_tbl, w.before A s = true) : ∃ D : va_G, va_K D vwCl [] s := by
  obtain ⟨c0, iS0, hKn0⟩ := u_known (C := RX0) (T := TX0) (N := 12) (n := 12) hts inX0 (hts (.instantiable RX0 12) (by decide +kernel))
  obtain ⟨c1, iS1, hKn1⟩ := u_known (C := RX1) (T := TX1) (N := 13) (n := 13) hts inX1 (hts (.instantiable RX1 13) (by decide +kernel))
  refine ⟨(fun k => if k = 0 then c0 else c1, fun k => if k = 0 then iS0 else iS1), fun k q hq => ?_, fun k q h => by simp at h⟩
  match k, hq with
  | 0, hq => cases hq; exact hKn0
  | 1, hq => cases hq; exact hKn1
  | k + 2, hq => simp [vwCl] at hq
theorem zL5 {i L : Nat} (hi : i ≤ 2560) (hL : L ≤ 2560) (h : ¬ Int32.ofNat L - 5 < nI i) : i + 5 ≤ L := by
  have e1 : (nI L).toInt = (L : Int) := nI_toInt (by omega)
  have e2 : (nI i).toInt = (i : Int) := nI_toInt (by omega)
  have e5 : (5 : Int32).toInt = 5 := by decide
  have e3 : (nI L - 5).toInt = (nI L).toInt - (5 : Int32).toInt := fb_subI (by rw [e1, e5]; omega) (by rw [e1, e5]; omega)
  rw [e1, e5] at e3
  refine Nat.not_lt.mp fun q => h ?_
  show nI L - 5 < nI i
  rw [fa_lt, e2, e3]
  omega
set_option maxHeartbeats 4000000 in
set_option maxRecDepth 100000 in
theorem law_loop {p : Program} {l : Launch} {e : Env} {s : State} {m : MethodId} {below : List Frame} {meth : Method} {cd : Code} {b L : Nat} {xs : Nat → Int32} {D : va_G} {cA cL : ClassId} (C9 : zC9 p l s m meth cd b L xs D cA cL) (hr : meth.sig.returnType = ret) (hlocks : meth.locks = false) {h hm o : Nat} {d d2 : Nat → Nat} :
    ∀ (n j : Nat), 5 * j ≤ L → 513 ≤ j + n → ∀ (z : S7) (c : C5) (th : Int32) (g : Nat → Int64), okC c → okZ z → ∀ (H : Heap) (locs : List Loc), va_P D vwCl (zLW h d hm d2 o cA cL z c th g) H → va_D (zA s.heap.size) (zLW h d hm d2 o cA cL z c th g) → va_S (zA s.heap.size) s.heap H locs → ∀ (ls : Array Slot), lv_has ls 7 [(4, .int (nI (5 * j))), (3, .ref o), (2, .ref hm), (1, .ref h), (0, .ref b)] → W p l e room_1 s m #[Value.ref b] below meth cd H locs (17 + j) (98 + 6 * j) (lw_Z below #[Value.ref b] s) (F0 m 23 ls []) := by
  obtain ⟨hst, hx, hb, hml, hown, hts, hX, hbl, hK, hE, hL⟩ := id C9
  have hbA : ¬ zA s.heap.size b := Nat.not_le.mpr hbl
  intro n
  induction n with
  | zero =>
    intro j h1 h2
    exact absurd h2 (by omega)
  | succ n ih =>
    intro j hj hn z c th g hc hz H locs hP hD hS ls hl
    refine lv_iload hx hb dL_law_23 (lv_at hl 0 rfl) ?_
    refine lv_aload_n hx hb dL_law_25 rfl (lv_at hl 4 rfl) ?_
    refine va_slen hx hb hX hbl hbA hS dL_law_26 ?_
    refine lv_iconst (v := 5) hx hb dL_law_27 (by decide) ?_
    refine lv_isub hx hb dL_law_28 ?_
    refine lv_icmp_gt (tgt := 1260) hx hb dL_law_29 (by decide) (fun _ => ?_) (fun c_29 => ?_)
    · refine lv_iconst (v := 1) hx hb dL_law_1260 (by decide) ?_
      refine va_forget (fun q hq => hS.2.2 q hq) ?_
      refine W.widen (k := 1045) (n := 8314) (by omega) (by omega) ?_
      exact lw_ret hx hb hr hlocks dL_law_1261
    · have hi : 5 * j + 5 ≤ L := zL5 (by omega) hL c_29
      refine lv_aload_n hx hb dL_law_32 rfl (lv_at hl 4 rfl) ?_
      refine lv_iload hx hb dL_law_33 (lv_at hl 0 rfl) ?_
      refine va_sld hx hb hX hbl hbA hS (vp_in_nI (by omega) (by omega)) dL_law_35 ?_
      refine lv_bipush (v := 31) hx hb dL_law_36 (by decide) ?_
      refine lv_iand hx hb dL_law_38 ?_
      obtain ⟨y, hy, ey⟩ := pk_andE (xs (nI (5 * j)).toNatClampNeg) (m := 31) 5 (by decide)
      rw [ey]
      have kk : zKK p l e s m below meth cd b D cA cL h hm o d d2 (5 * j) (17 + j) (98 + 6 * j) := by
        intro z c th g hc hz H locs hP hD hS ls hl
        refine lv_iinc (v := nI (5 * (j + 1))) (lv' := [(4, .int (nI (5 * (j + 1)))), (3, .ref o), (2, .ref hm), (1, .ref h), (0, .ref b)]) hx hb dL_law_1254 hl (k := 0) rfl (z_inc (5 * j) 5) (by decide) rfl (fun ls hl => ?_)
        refine lv_goto (tgt := 23) hx hb dL_law_1257 (by decide) ?_
        refine W.widen (k := 17 + (j + 1)) (n := 98 + 6 * (j + 1)) (by omega) (by omega) ?_
        exact ih (j + 1) (by omega) (by omega) z c th g hc hz H locs hP hD hS ls hl
      by_cases hy20 : 20 ≤ y
      · refine lv_tableOut (tgt := 1254) hx hb dL_law_39 (Or.inr (by rw [nI_toInt (by omega)]; omega)) (by decide) ?_
        refine W.widen (k := 17 + j + 1) (n := 98 + 6 * j + 6) (by omega) (by omega) ?_
        exact kk z c th g hc hz H locs hP hD hS ls hl
      · rcases (show y = 0 ∨ y = 1 ∨ y = 2 ∨ y = 3 ∨ y = 4 ∨ y = 5 ∨ y = 6 ∨ y = 7 ∨ y = 8 ∨ y = 9 ∨ y = 10 ∨ y = 11 ∨ y = 12 ∨ y = 13 ∨ y = 14 ∨ y = 15 ∨ y = 16 ∨ y = 17 ∨ y = 18 ∨ y = 19 by omega) with rfl | rfl | rfl | rfl | rfl | rfl | rfl | rfl | rfl | rfl | rfl | rfl | rfl | rfl | rfl | rfl | rfl | rfl | rfl | rfl
        · refine lv_tableIn (x := nI 0) (off := 93) (tgt := 132) hx hb dL_law_39 (by decide) (by decide) (by decide) (by decide) ?_
          exact law_0 C9 hc hz hi (by omega) (by omega) kk hP hD hS hl
        · refine lv_tableIn (x := nI 1) (off := 161) (tgt := 200) hx hb dL_law_39 (by decide) (by decide) (by decide) (by decide) ?_
          exact law_1 C9 hc hz hi (by omega) (by omega) kk hP hD hS hl
        · refine lv_tableIn (x := nI 2) (off := 221) (tgt := 260) hx hb dL_law_39 (by decide) (by decide) (by decide) (by decide) ?_
          exact law_2 C9 hc hz hi (by omega) (by omega) kk hP hD hS hl
        · refine lv_tableIn (x := nI 3) (off := 289) (tgt := 328) hx hb dL_law_39 (by decide) (by decide) (by decide) (by decide) ?_
          exact law_3 C9 hc hz hi (by omega) (by omega) kk hP hD hS hl
        · refine lv_tableIn (x := nI 4) (off := 381) (tgt := 420) hx hb dL_law_39 (by decide) (by decide) (by decide) (by decide) ?_
          exact law_4 C9 hc hz hi (by omega) (by omega) kk hP hD hS hl
        · refine lv_tableIn (x := nI 5) (off := 437) (tgt := 476) hx hb dL_law_39 (by decide) (by decide) (by decide) (by decide) ?_
          exact law_5 C9 hc hz hi (by omega) (by omega) kk hP hD hS hl
        · refine lv_tableIn (x := nI 6) (off := 450) (tgt := 489) hx hb dL_law_39 (by decide) (by decide) (by decide) (by decide) ?_
          exact law_6 C9 hc hz hi (by omega) (by omega) kk hP hD hS hl
        · refine lv_tableIn (x := nI 7) (off := 506) (tgt := 545) hx hb dL_law_39 (by decide) (by decide) (by decide) (by decide) ?_
          exact law_7 C9 hc hz hi (by omega) (by omega) kk hP hD hS hl
        · refine lv_tableIn (x := nI 8) (off := 562) (tgt := 601) hx hb dL_law_39 (by decide) (by decide) (by decide) (by decide) ?_
          exact law_8 C9 hc hz hi (by omega) (by omega) kk hP hD hS hl
        · refine lv_tableIn (x := nI 9) (off := 618) (tgt := 657) hx hb dL_law_39 (by decide) (by decide) (by decide) (by decide) ?_
          exact law_9 C9 hc hz hi (by omega) (by omega) kk hP hD hS hl
        · refine lv_tableIn (x := nI 10) (off := 674) (tgt := 713) hx hb dL_law_39 (by decide) (by decide) (by decide) (by decide) ?_
          exact law_10 C9 hc hz hi (by omega) (by omega) kk hP hD hS hl
        · refine lv_tableIn (x := nI 11) (off := 730) (tgt := 769) hx hb dL_law_39 (by decide) (by decide) (by decide) (by decide) ?_
          exact law_11 C9 hc hz hi (by omega) (by omega) kk hP hD hS hl
        · refine lv_tableIn (x := nI 12) (off := 786) (tgt := 825) hx hb dL_law_39 (by decide) (by decide) (by decide) (by decide) ?_
          exact law_12 C9 hc hz hi (by omega) (by omega) kk hP hD hS hl
        · refine lv_tableIn (x := nI 13) (off := 842) (tgt := 881) hx hb dL_law_39 (by decide) (by decide) (by decide) (by decide) ?_
          exact law_13 C9 hc hz hi (by omega) (by omega) kk hP hD hS hl
        · refine lv_tableIn (x := nI 14) (off := 898) (tgt := 937) hx hb dL_law_39 (by decide) (by decide) (by decide) (by decide) ?_
          exact law_14 C9 hc hz hi (by omega) (by omega) kk hP hD hS hl
        · refine lv_tableIn (x := nI 15) (off := 954) (tgt := 993) hx hb dL_law_39 (by decide) (by decide) (by decide) (by decide) ?_
          exact law_15 C9 hc hz hi (by omega) (by omega) kk hP hD hS hl
        · refine lv_tableIn (x := nI 16) (off := 1022) (tgt := 1061) hx hb dL_law_39 (by decide) (by decide) (by decide) (by decide) ?_
          exact law_16 C9 hc hz hi (by omega) (by omega) kk hP hD hS hl
        · refine lv_tableIn (x := nI 17) (off := 1078) (tgt := 1117) hx hb dL_law_39 (by decide) (by decide) (by decide) (by decide) ?_
          exact law_17 C9 hc hz hi (by omega) (by omega) kk hP hD hS hl
        · refine lv_tableIn (x := nI 18) (off := 1134) (tgt := 1173) hx hb dL_law_39 (by decide) (by decide) (by decide) (by decide) ?_
          exact law_18 C9 hc hz hi (by omega) (by omega) kk hP hD hS hl
        · refine lv_tableIn (x := nI 19) (off := 1202) (tgt := 1241) hx hb dL_law_39 (by decide) (by decide) (by decide) (by decide) ?_
          exact law_19 C9 hc hz hi (by omega) (by omega) kk hP hD hS hl
set_option maxHeartbeats 4000000 in
set_option maxRecDepth 100000 in
/-- THE LAW, from its entry -/
theorem whole_start {p : Program} {e : Env} {s : State} {m : MethodId} {below : List Frame} {meth : Method} {c : Code} (l : Launch) (hflags : l.flags = flags0) {b L : Nat} {xs : Nat → Int32} (hL : L ≤ 2560) (C0 : lw_At p s m meth c b L xs) : W p l e room_1 s m #[Value.ref b] below meth c s.heap [] 0 0 (lw_Z below #[Value.ref b] s) (entryFrame m ([Value.ref b] : List Value).toArray 7) := by
  obtain ⟨hx, hb, hr, hml, hown, hts0, hX, hbl, hlocks, hgv⟩ := C0
  have hst : l.stackTraces = false := by
    unfold Launch.stackTraces
    rw [hflags]
    decide +kernel
  have hown : s.vm.findClass RL = some m.cls := hown
  have hts : ∀ w ∈ wsL_law, w.before #[Value.ref b] s = true := fun w h => hts0 w (wsL_law_in w h)
  have hE : zEnv s.heap.size s := zEnv_of hts0 hgv
  obtain ⟨D, hK⟩ := zKn hts0
  have hA : ∀ q : Nat, s.heap.size ≤ q → zA s.heap.size q := fun _ h => h
  have hS : va_S (zA s.heap.size) s.heap s.heap [] := va_S.rf
  have hP : va_P D vwCl [] s.heap := fun k q h => by simp at h
  have hD : va_D (zA s.heap.size) [] := ⟨fun i j p q h => by simp at h, fun k q h => by simp at h⟩
  have hl := lv_entry ([.ref b]) (n := 7) (Nat.le_of_ble_eq_true rfl)
  rw [lg_entry_eq]
  generalize (lg_sl ([.ref b]) ++ List.replicate (7 - (lg_sl ([.ref b])).length) Slot.unset).toArray = ls at hl ⊢
  have hl : lv_has ls 7 [(0, .ref b)] := hl
  refine va_new (ci := 0) (fs := [.null, .null, .null, .null, .null, .null, .null, .int 0, .int 0, .int 0, .int 0, .int 0]) (C := RX0) (T := TX0) (N := 12) hx hb hts inlX0 tyX0 tyX0_ok hown (hts (.classLink RL 8 RX0) (by decide +kernel)) (hts (.instantiable RX0 12) (by decide +kernel)) (hts (.initialized RX0) (by decide +kernel)) hK hP hD hS hA rfl (fun j hj => by rcases (show j = 0 ∨ j = 1 ∨ j = 2 ∨ j = 3 ∨ j = 4 ∨ j = 5 ∨ j = 6 ∨ j = 7 ∨ j = 8 ∨ j = 9 ∨ j = 10 ∨ j = 11 by omega) with rfl | rfl | rfl | rfl | rfl | rfl | rfl | rfl | rfl | rfl | rfl | rfl <;> rfl) (Nat.le_of_ble_eq_true rfl) (Nat.le_of_ble_eq_true rfl) dL_law_0 (fun h H hP hD hS => ?_)
  have hP : va_P D vwCl [(h, .inr (0, [.null, .null, .null, .null, .null, .null, .null, .int 0, .int 0, .int 0, .int 0, .int 0]))] H := hP
  have hD : va_D (zA s.heap.size) [(h, .inr (0, [.null, .null, .null, .null, .null, .null, .null, .int 0, .int 0, .int 0, .int 0, .int 0]))] := hD
  refine W.widen (k := 1) (n := 12) (by omega) (by omega) ?_
  refine lv_dup hx hb dL_law_3 rfl ?_
  refine va_callv (va_runI (As := []) (rest := [.ref h]) ⟨hx, hb, hml, hown, hts⟩ (c_X0_init l D s.heap.size h) (cwI 0 hts gL_law_X0_init rfl rfl rfl (hts (.initialized RX0) (by decide +kernel)) (hts (.methodLink RL 71 yX0_init) (by decide +kernel)) (hts (.instanceMethod yX0_init) (by decide +kernel)) rfl (by decide +kernel) ⟨Nat.le_of_ble_eq_true rfl, Nat.le_of_ble_eq_true rfl⟩) ⟨zPre0.blind, fun U hU hW => ⟨rfl, by rw [hU]; exact hS.1, by rw [hU]; exact hP, hD, va_K.moved hW.alike hK⟩⟩ rfl rfl hl.1 rfl (lv_room (Nat.le_of_ble_eq_true rfl)) dL_law_4 ⟨Nat.le_of_ble_eq_true rfl, Nat.le_of_ble_eq_true rfl⟩) hS (fun _ _ h9 => h9) (fun _ h9 => h9) (fun _ t H locs ht hvm hw hB hz1 hk1 hS => ?_)
  obtain ⟨d, cA, ⟨hP, hD⟩, hK1⟩ := hB
  rw [ht] at hP
  have hK : va_K D vwCl [(cA, .int)] s := va_K.moved hvm.symm hK1
  refine W.widen (k := 8) (n := 48) (by omega) (by omega) ?_
  refine lv_astore_n (lv' := [(1, .ref h), (0, .ref b)]) hx hb dL_law_7 rfl hl (by decide) rfl (fun ls hl => ?_)
  refine va_new (ci := 1) (fs := [.int 0, .int 0, .int 0, .int 0, .int 0, .int 0, .null, .null, .null, .null, .null, .null, .null]) (C := RX1) (T := TX1) (N := 13) hx hb hts inlX1 tyX1 tyX1_ok hown (hts (.classLink RL 72 RX1) (by decide +kernel)) (hts (.instantiable RX1 13) (by decide +kernel)) (hts (.initialized RX1) (by decide +kernel)) hK hP hD hS hA rfl (fun j hj => by rcases (show j = 0 ∨ j = 1 ∨ j = 2 ∨ j = 3 ∨ j = 4 ∨ j = 5 ∨ j = 6 ∨ j = 7 ∨ j = 8 ∨ j = 9 ∨ j = 10 ∨ j = 11 ∨ j = 12 by omega) with rfl | rfl | rfl | rfl | rfl | rfl | rfl | rfl | rfl | rfl | rfl | rfl | rfl <;> rfl) (Nat.le_of_ble_eq_true rfl) (Nat.le_of_ble_eq_true rfl) dL_law_8 (fun hm H hP hD hS => ?_)
  have hP : va_P D vwCl ([(hm, .inr (1, [.int 0, .int 0, .int 0, .int 0, .int 0, .int 0, .null, .null, .null, .null, .null, .null, .null]))] ++ (wX h d cA zI cI) ++ []) H := hP.sub [8, 0, 1, 2, 3, 4, 5, 6, 7] rfl
  have hD : va_D (zA s.heap.size) ([(hm, .inr (1, [.int 0, .int 0, .int 0, .int 0, .int 0, .int 0, .null, .null, .null, .null, .null, .null, .null]))] ++ (wX h d cA zI cI) ++ []) := hD.sub [8, 0, 1, 2, 3, 4, 5, 6, 7] (by decide) rfl
  refine W.widen (k := 9) (n := 61) (by omega) (by omega) ?_
  refine lv_dup hx hb dL_law_11 rfl ?_
  refine va_callv (va_runI (As := []) (rest := [.ref hm]) ⟨hx, hb, hml, hown, hts⟩ (c_X1_init l D s.heap.size hm h d cA) (cwI 0 hts gL_law_X1_init rfl rfl rfl (hts (.initialized RX1) (by decide +kernel)) (hts (.methodLink RL 74 yX1_init) (by decide +kernel)) (hts (.instanceMethod yX1_init) (by decide +kernel)) rfl (by decide +kernel) ⟨Nat.le_of_ble_eq_true rfl, Nat.le_of_ble_eq_true rfl⟩) ⟨zPre0.blind, fun U hU hW => ⟨rfl, by rw [hU]; exact hS.1, by rw [hU]; exact hP, hD, va_K.moved hW.alike hK⟩⟩ rfl rfl hl.1 rfl (lv_room (Nat.le_of_ble_eq_true rfl)) dL_law_12 ⟨Nat.le_of_ble_eq_true rfl, Nat.le_of_ble_eq_true rfl⟩) hS (fun _ _ h9 => h9) (fun _ h9 => h9) (fun _ t H locs ht hvm hw hB hz1 hk1 hS => ?_)
  obtain ⟨d2, hP, hD⟩ := hB
  rw [ht] at hP
  refine W.widen (k := 16) (n := 97) (by omega) (by omega) ?_
  refine lv_astore_n (lv' := [(2, .ref hm), (1, .ref h), (0, .ref b)]) hx hb dL_law_15 rfl hl (by decide) rfl (fun ls hl => ?_)
  refine lv_iconst (v := 1) hx hb dL_law_16 (by decide) ?_
  refine va_newa (atype := .long) (ty := .long) (N' := 1) (a0 := (1, .inr (.inl (fun _ => 0)))) hx hb (hts (.arrayClass .long) (by decide +kernel)) rfl hK hP hD hS hA (fun _ => rfl) (by decide) (by decide) (by decide) (Nat.le_of_ble_eq_true rfl) (Nat.le_of_ble_eq_true rfl) dL_law_17 (fun o cL H hK hP hD hS => ?_)
  have hK : va_K D vwCl [(cA, .int), (cL, .long)] s := hK
  have hP : va_P D vwCl (zLW h d hm d2 o cA cL zI cI 0 (fun _ => 0)) H := hP.sub [8, 9, 10, 11, 12, 13, 14, 15, 16, 0, 1, 2, 3, 4, 5, 6, 7] rfl
  have hD : va_D (zA s.heap.size) (zLW h d hm d2 o cA cL zI cI 0 (fun _ => 0)) := hD.sub [8, 9, 10, 11, 12, 13, 14, 15, 16, 0, 1, 2, 3, 4, 5, 6, 7] (by decide) rfl
  refine lv_astore_n (lv' := [(3, .ref o), (2, .ref hm), (1, .ref h), (0, .ref b)]) hx hb dL_law_19 rfl hl (by decide) rfl (fun ls hl => ?_)
  refine lv_iconst (v := 0) hx hb dL_law_20 (by decide) ?_
  refine lv_istore (lv' := [(4, .int 0), (3, .ref o), (2, .ref hm), (1, .ref h), (0, .ref b)]) hx hb dL_law_21 hl (by decide) rfl (fun ls hl => ?_)
  have hl : lv_has ls 7 [(4, .int (nI (5 * 0))), (3, .ref o), (2, .ref hm), (1, .ref h), (0, .ref b)] := by
    rw [show nI (5 * 0) = 0 from nI_0]
    exact hl
  refine W.widen (k := 17 + 0) (n := 98 + 6 * 0) (by omega) (by omega) ?_
  exact law_loop (⟨hst, hx, hb, hml, hown, hts, hX, hbl, hK, hE, hL⟩ : zC9 p l s m meth c b L xs D cA cL) hr hlocks 513 0 (Nat.zero_le _) (by omega) zI cI 0 (fun _ => 0) cI_ok zI_ok H _ hP hD hS ls hl
set_option maxHeartbeats 4000000 in
theorem lw_walk (l : Launch) (hflags : l.flags = flags0) (b : Addr) (xs : List Int32) : MetFree l x (headSpec (Jvm.Cond.code x code maxLocals ret :: tables_1) room_1) (lw_P b xs) (fun _ _ _ _ _ => True) lw_Q := by
  refine MetFree.of_bodyS (code := code) (maxLocals := maxLocals) (ret := ret) (by decide) ?_ ?_
  · intro args s m h hn
    obtain ⟨meth, c, h1, h2, h3, h4, h5, h6, -, -⟩ := Cond.code_spec hn (atoms_spec (ws := Jvm.Cond.code x code maxLocals ret :: tables_1) h _ List.mem_cons_self)
    exact ⟨meth, c, h1, h2, h3, h4, h5, h6⟩
  · intro p e s m args below meth c s₁ B hml0 hP _
    obtain ⟨rfl, hx, hbd, hgv⟩ := hP
    obtain ⟨scr, harrAt, hlist, hof, hsmall⟩ := hx
    obtain ⟨hcb, hkn, -, -⟩ := State.arrayAt?_spec harrAt
    have hown : s.vm.findClass R_law = some m.cls := findClass_of_methodNamed B.named
    have hts0 : ∀ c ∈ (Jvm.Cond.code x code maxLocals ret :: tables_1), c.before #[Value.ref b] s = true := atoms_spec (ws := Jvm.Cond.code x code maxLocals ret :: tables_1) B.pre
    have hts : ∀ w ∈ lw_tbl, w.before #[Value.ref b] s = true := k2_hts_sels lw_privs (fun w hw => hts0 w (List.mem_cons_of_mem _ hw)) lw_privs_ok
    have hml : c.maxLocals = 7 := B.maxLocals_eq (hts0 _ List.mem_cons_self)
    have X₀ : Stand p l e room_1 s m #[Value.ref b] below meth c s₁ [] 0 0 := Stand.of_body B
    have hh0 : s₁.heap = s.heap := by rw [B.state]; rfl
    have hsz : scr.slots.size = xs.length := by rw [← Array.length_toList, hlist, List.length_map]
    have hval : ∀ j : Nat, j < xs.length → scr.slots[j]? = some (.int (xs.getD j 0)) := fun j hj => by
      rw [← Array.getElem?_toList, hlist]
      simp [hj]
    have hbl : b < s.heap.size := (Array.getElem?_eq_some_iff.mp hcb).1
    have hX : va_X b xs.length (fun j => xs.getD j 0) s s.heap := ⟨scr, hcb, hof, hkn, hsz, hval⟩
    have K : W p l e room_1 s m #[Value.ref b] below meth c s₁.heap [] 0 0 (lw_Z below #[Value.ref b] s) (entryFrame m ([Value.ref b] : List Value).toArray 7) := by
      rw [hh0]
      exact whole_start l hflags hbd ⟨B.exec, B.bytes, B.returns, hml, hown, hts, hX, hbl, B.notSynchronized, hgv⟩
    obtain ⟨t, a1, o, b1, b2, b3⟩ := K s₁ rfl X₀
    exact ⟨t, o, a1, b1, b2, b3⟩
theorem lw_pre_spec {args : Array Value} {s : State} (h : (Jvm.Cond.and given_1 narrow_1).before args s = true) (hr : rest_1_c.before args s = true) : ∃ (b : Addr) (xs : List Int32), lw_P b xs args s := by
  have hs := flat_of_before _ h
  have hq := flat_of_before _ hr
  have hc : (Cond.count 1).before args s = true := hs _ (by decide +kernel)
  have harr : (Cond.arrayOf (.arg 0) .int).before args s = true := hs _ (by decide +kernel)
  have hle : (Cond.le (.length (.arg 0)) (.int 2560)).before args s = true := hs _ (by decide +kernel)
  have hlen : (Cond.isInt (.length (.arg 0))).before args s = true := hq _ (by decide +kernel)
  have hall : (Cond.all (.arg 0) (.isInt (.elem (.arg 0) (.index 0)))).before args s = true := hq _ (by decide +kernel)
  obtain ⟨b, xs, hb, hx⟩ := State.ints_of_pre rfl harr hlen hall
  have hsm : xs.length < 2 ^ 31 := hx.choose_spec.2.2.2
  have hev : (Term.length (.arg 0)).eval args s none [] s = some (.int xs.length.toInt32) := hx.length_eval hb
  have hv := Cond.le_ints hev (show (Term.int 2560).eval args s none [] s = some (.int 2560) from rfl)
  have hd : xs.length.toInt32 ≤ 2560 := by
    simpa [Cond.before, Cond.holds, hv] using hle
  have hN : xs.length ≤ 2560 := (Int32.ofNat_le_ofNat hsm (by decide)).mp (show Int32.ofNat xs.length ≤ Int32.ofNat 2560 from hd)
  exact ⟨b, xs, Cond.one_arg hc (show args[0]? = some (.ref b) from hb), hx, hN, h⟩
theorem lw_comes (l : Launch) (hflags : l.flags = flags0) : Comes l x (Jvm.Cond.code x code maxLocals ret :: tables_1) room_1 (fun tb e args s => Calls_1 tb e args s ∧ rest_1 tb e args s ∧ Pre_1 tb e args s)
    (fun _ _ args s o t => lw_Q args s o t) := by
  intro p e ha hc hk s m args below hf hfit hheap happ hpre
  obtain ⟨b, xs, hP⟩ := lw_pre_spec hpre.2.2 hpre.2.1
  obtain ⟨k, o, h1, h2, h3, hQ⟩ := lw_walk l hflags b xs p e ha hc hk s m args below hf ((Spec.applies_iff_loose hf).mp happ).1 hP trivial
  exact ⟨k, o, h1, h2, h3, hQ⟩
theorem lw_frame {s t : State} {o : Outcome} {args : Array Value} (h : Framed s o t [] 1045 8314) :
    Framed s o t (fieldLocs frame_1_writes args s ++ arrayLocs frame_1_arrays args s ++ staticLocs frame_1_statics s) 1045 8314 := h
theorem lw_limb (L : Cond) (hL : ∀ (args : Array Value) (s t : State), L.after args s (.returned (some (.int 1))) t = true) :
    ArmFor flags0 classFile x code maxLocals ret World_1 tables_1 room_1 Calls_1 rest_1 Pre_1
      (fun tb e a s o t => postC L tb e a s o t ∧ Framed s o t (fieldLocs frame_1_writes a s ++ arrayLocs frame_1_arrays a s ++ staticLocs frame_1_statics s) 1045 8314) := by
  intro l hflags _ _ p e ha hc hk s m args below hf hfit hheap happ hpre
  obtain ⟨k, o, h1, h2, h3, rfl, hF⟩ := lw_comes l hflags p e ha hc hk s m args below hf hfit hheap happ hpre
  exact ⟨k, _, h1, h2, h3, hL args s _, lw_frame hF⟩
theorem i_vc : Claimed_1_1 ∧ Claimed_1_2 := ⟨lw_limb limb_1_1 (fun args s t => by simp [limb_1_1, Cond.after, Cond.holds, Cond.value]), lw_limb limb_1_2 (fun args s t => Cond.after_iff.mpr (by
  first | (rw [show limb_1_2 = Cond.eq .result (.int 1) from rfl, Cond.eq_ints (x := 1) (y := 1) rfl rfl]; simp; done) | (simp [limb_1_2, Cond.value, Term.eval]; done)))⟩
