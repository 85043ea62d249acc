/-! the law's own numbers: low, cell -/
def zLo (v n : Int32) : Int32 := (v &&& 2147483647) - (v &&& 2147483647) / n * n
theorem zLo_lt (v : Int32) {N : Nat} (h0 : 0 < N) (hN : N < 2 ^ 31) : ∃ k, k < N ∧ zLo v (nI N) = nI k := by
  obtain ⟨j, hj, ej⟩ := pk_andE v (m := 2147483647) 31 (by decide +kernel)
  refine ⟨j % N, Nat.mod_lt _ h0, ?_⟩
  unfold zLo
  rw [ej]
  exact pk_rem (by omega) h0 hN
def zCp (b L : Nat) (xs : Nat → Int32) (U : State) : Prop := va_X b L xs U U.heap ∧ b < U.heap.size
theorem zCp.blind {b L : Nat} {xs : Nat → Int32} {av : List Value} : FrameBlind (va_Pc av (zCp b L xs)) := by
  intro a U g mk h
  exact ⟨h.1, va_X.moved (u := U) (U := U.calling g mk a) (Vm.Alike.refl U.vm) h.2.1, h.2.2⟩
set_option maxHeartbeats 4000000 in
set_option maxRecDepth 100000 in
theorem c_L_low (l : Launch) (v : Int32) (n : Int32) (hn : ¬ n = 0) : Met l yL_low wsL_low ({ frames := 0, cells := 0, slots := 0, locals := 0 }) (va_Pc [.int v, .int n] (fun _ => True)) (vp_Si (fun rv => rv = zLo v n)) 0 0 (fun _ => False) := by
  refine Met.ofW (cc := cL_low) (maxL := 2) (ret := (some .int)) (by decide) rfl ?_
  intro pr e s m ag below meth cd s₁ B hml hv
  obtain ⟨rfl, -⟩ := hv
  have hx := B.exec
  have hb := B.bytes
  have hr := B.returns
  have hts := atoms_spec (ws := wsL_low) B.pre
  have hown : s.vm.findClass RL = some m.cls := findClass_of_methodNamed B.named
  have hlocks := B.notSynchronized
  have hl := lv_entry ([.int v, .int n]) (n := 2) (Nat.le_of_ble_eq_true rfl)
  rw [lg_entry_eq]
  generalize (lg_sl ([.int v, .int n]) ++ List.replicate (2 - (lg_sl ([.int v, .int n])).length) Slot.unset).toArray = ls at hl ⊢
  have hl : lv_has ls 2 [(0, .int v), (1, .int n)] := hl
  refine lv_iload_n hx hb dL_low_0 rfl (lv_at hl 0 rfl) ?_
  refine lv_ldc (v := 2147483647) hx hb hown (hts (.constant RL 7 2147483647) (by decide +kernel)) dL_low_1 ?_
  refine lv_iand hx hb dL_low_3 ?_
  refine lv_iload_n hx hb dL_low_4 rfl (lv_at hl 1 rfl) ?_
  refine lv_irem hx hb dL_low_5 hn ?_
  exact W.iret (v := ((v &&& 2147483647) - (v &&& 2147483647) / n * n)) hx hb hr (fun t ht hW => ⟨_, rfl, rfl, ht⟩) (fun _ h9 => nomatch h9) dL_low_6

set_option maxHeartbeats 4000000 in
set_option maxRecDepth 100000 in
theorem c_L_cell (l : Launch) (b L : Nat) (xs : Nat → Int32) (k : Nat) (hk : k < 1000) (hL : L < 1000) : Met l yL_cell wsL_cell ({ frames := 0, cells := 0, slots := 0, locals := 0 }) (va_Pc [.ref b, .int (nI k)] (zCp b L xs)) (vp_Si (fun _ => True)) 0 0 (fun _ => False) := by
  refine Met.ofW (cc := cL_cell) (maxL := 2) (ret := (some .int)) (by decide) rfl ?_
  intro pr e s m ag below meth cd s₁ B hml hv
  obtain ⟨rfl, hX, hbl⟩ := hv
  have hx := B.exec
  have hb := B.bytes
  have hr := B.returns
  have hS : va_S (fun _ => False) s.heap s.heap [] := va_S.rf
  have hbA : ¬ (fun _ : Nat => False) b := fun q => q
  have hl := lv_entry ([.ref b, .int (nI k)]) (n := 2) (Nat.le_of_ble_eq_true rfl)
  rw [lg_entry_eq]
  generalize (lg_sl ([.ref b, .int (nI k)]) ++ List.replicate (2 - (lg_sl ([.ref b, .int (nI k)])).length) Slot.unset).toArray = ls at hl ⊢
  have hl : lv_has ls 2 [(0, .ref b), (1, .int (nI k))] := hl
  refine lv_iload_n hx hb dL_cell_0 rfl (lv_at hl 1 rfl) ?_
  refine lv_aload_n hx hb dL_cell_1 rfl (lv_at hl 0 rfl) ?_
  refine va_slen hx hb hX hbl hbA hS dL_cell_2 ?_
  refine lv_icmp_ge (tgt := 12) hx hb dL_cell_3 (by decide) (fun c_3 => ?_) (fun c_3 => ?_)
  · refine lv_sipush (v := 7919) hx hb dL_cell_12 (by decide) ?_
    refine lv_iload_n hx hb dL_cell_15 rfl (lv_at hl 1 rfl) ?_
    refine lv_bipush (v := 7) hx hb dL_cell_16 (by decide) ?_
    refine lv_iadd hx hb dL_cell_18 ?_
    refine lv_imul hx hb dL_cell_19 ?_
    refine lv_iload_n hx hb dL_cell_20 rfl (lv_at hl 1 rfl) ?_
    refine lv_sipush (v := 2089) hx hb dL_cell_21 (by decide) ?_
    refine lv_iadd hx hb dL_cell_24 ?_
    refine lv_imul hx hb dL_cell_25 ?_
    exact W.iret (v := (7919 * (nI k + 7) * (nI k + 2089))) hx hb hr (fun t ht hW => ⟨_, rfl, trivial, ht⟩) (fun _ h9 => nomatch h9) dL_cell_26
  · have hk2 : k < L := Nat.not_le.mp fun q => c_3 ((nI_leI (by omega) (by omega)).mpr q)
    refine lv_aload_n hx hb dL_cell_6 rfl (lv_at hl 0 rfl) ?_
    refine lv_iload_n hx hb dL_cell_7 rfl (lv_at hl 1 rfl) ?_
    refine va_sld hx hb hX hbl hbA hS (vp_in_nI hk2 (by omega)) dL_cell_8 ?_
    refine lv_goto (tgt := 26) hx hb dL_cell_9 (by decide) ?_
    exact W.iret (v := (xs (nI k).toNatClampNeg)) hx hb hr (fun t ht hW => ⟨_, rfl, trivial, ht⟩) (fun _ h9 => nomatch h9) dL_cell_26
def zTg : Nat → Nat
  | 0 => 108
  | 1 => 149
  | 2 => 220
  | 3 => 226
  | 4 => 226
  | 5 => 282
  | 6 => 282
  | 7 => 282
  | _ => 337
set_option maxHeartbeats 4000000 in
theorem act_sw {p : Program} {l : Launch} {e : Env} {R : Room} {s : State} {m : MethodId} {args : Array Value} {below : List Frame} {meth : Method} {c : Code} {H : Heap} {locs : List Loc} {cells slots : Nat} {Q : State → Prop} {ls : Array Slot} {rest : List Value} (hx : p.tables.exec = Jvm.exec) (hb : c.code = cL_act) {k : Nat} (hk : k < 12) (kk : W p l e R s m args below meth c H locs cells slots Q (F0 m (zTg k) ls rest)) : W p l e R s m args below meth c H locs cells slots Q (F0 m 63 ls (.int (nI k) :: rest)) := by
  rcases (show k = 0 ∨ k = 1 ∨ k = 2 ∨ k = 3 ∨ k = 4 ∨ k = 5 ∨ k = 6 ∨ k = 7 ∨ 8 ≤ k by omega) with rfl | rfl | rfl | rfl | rfl | rfl | rfl | rfl | h8
  · exact lv_tableIn (x := nI 0) (off := 45) (tgt := 108) hx hb dL_act_63 (by decide) (by decide) (by decide) (by decide) kk
  · exact lv_tableIn (x := nI 1) (off := 86) (tgt := 149) hx hb dL_act_63 (by decide) (by decide) (by decide) (by decide) kk
  · exact lv_tableIn (x := nI 2) (off := 157) (tgt := 220) hx hb dL_act_63 (by decide) (by decide) (by decide) (by decide) kk
  · exact lv_tableIn (x := nI 3) (off := 163) (tgt := 226) hx hb dL_act_63 (by decide) (by decide) (by decide) (by decide) kk
  · exact lv_tableIn (x := nI 4) (off := 163) (tgt := 226) hx hb dL_act_63 (by decide) (by decide) (by decide) (by decide) kk
  · exact lv_tableIn (x := nI 5) (off := 219) (tgt := 282) hx hb dL_act_63 (by decide) (by decide) (by decide) (by decide) kk
  · exact lv_tableIn (x := nI 6) (off := 219) (tgt := 282) hx hb dL_act_63 (by decide) (by decide) (by decide) (by decide) kk
  · exact lv_tableIn (x := nI 7) (off := 219) (tgt := 282) hx hb dL_act_63 (by decide) (by decide) (by decide) (by decide) kk
  · have e8 : zTg k = 337 := by
      rcases (show k = 8 ∨ k = 9 ∨ k = 10 ∨ k = 11 by omega) with rfl | rfl | rfl | rfl <;> rfl
    rw [e8] at kk
    exact lv_tableOut (tgt := 337) hx hb dL_act_63 (Or.inr (by rw [nI_toInt (by omega)]; omega)) (by decide) kk
