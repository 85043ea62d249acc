/-! THE CLAIM OUT OF ONE WALK OF THE LAW'S BODY. Your part is whole_start (and what it stands on); all else here is the same for every law, but numbers. -/
def R_law : String := "TunedWrensLaw"
def lw_P (b : Addr) (xs : List Int32) (args : Array Value) (s : State) : Prop := args = #[.ref b] ∧ s.IntsAt b xs ∧ xs.length ≤ 2560 ∧ (Jvm.Cond.and given_1 narrow_1).before args s = true
def lw_Q (_ : Array Value) (s : State) (o : Outcome) (t : State) : Prop := o = .returned (some (.int 1)) ∧ Framed s o t [] 1045 8314
def lw_Z (below : List Frame) (a : Array Value) (s : State) : State → Prop := fun t => ∃ o, t.status = .running ∧ Ended t below o ∧ lw_Q a s o t
/-- the law's own end, with 1 on the stack, nothing written that was there before, its room as the claim has it -/
theorem lw_ret {p : Program} {l : Launch} {e : Env} {s : State} {m : MethodId} {below : List Frame} {meth : Method} {c : Code} {b : Nat} (hx : p.tables.exec = Jvm.exec) (hb : c.code = code) (hr : meth.sig.returnType = ret) (hlocks : meth.locks = false) {pc : Nat} {H : Heap} {ls : Array Slot} (hdg : decode code pc = .ok (.ireturn, 1)) : W p l e room_1 s m #[Value.ref b] below meth c H [] 1045 8314 (lw_Z below #[Value.ref b] s) (F0 m pc ls [.int 1]) := by
  intro T hT X
  obtain ⟨fs, hret, hrun, hended, hW, hframe⟩ := X.leave (v := some (.int 1)) (hlocks := hlocks) (fun h => by rw [hr] at h; cases h)
  have hmeth' : T.vm.method? m = some meth := X.method'
  refine ⟨T.setFrames fs, ?_, .returned (some (.int 1)), hrun, hended, rfl, ⟨_, rfl⟩, hW, hframe⟩
  jvm_step X.here [X.here.top, hx, hb, hdg, hmeth', hr, ret, narrow_b1]
  (try refine ⟨rfl, ?_⟩); (try refine ⟨rfl, ?_⟩)
  first | (intro acts; rw [hret _ acts rfl rfl rfl]) | rw [hret _ _ rfl rfl rfl]
  exact Steps.refl _
/-- what holds at the law's entry: the machine, the code, the tables' words (any of lw_tbl by 'hts w (by decide +kernel)'), the script of L ints xs at the cell b, what the Statement gives of the start (any of its parts by flat_of_before) -/
def lw_At (p : Program) (s : State) (m : MethodId) (meth : Method) (c : Code) (b L : Nat) (xs : Nat → Int32) : Prop :=
  p.tables.exec = Jvm.exec ∧ c.code = code ∧ meth.sig.returnType = ret ∧ c.maxLocals = 7 ∧ s.vm.findClass R_law = some m.cls ∧ (∀ w ∈ lw_tbl, w.before #[Value.ref b] s = true) ∧ va_X b L xs s s.heap ∧ b < s.heap.size ∧ meth.locks = false ∧ (Jvm.Cond.and given_1 narrow_1).before #[Value.ref b] s = true

theorem zcmp (x : Int64) : lg_cmp x x = 0 := by
  unfold lg_cmp
  rw [if_neg (fun q => by have h := Int64.lt_iff_toInt_lt.mp q; omega), if_pos rfl]
/-- what holds all along the law -/
def zC9 (p : Program) (l : Launch) (s : State) (m : MethodId) (meth : Method) (cd : Code) (b L : Nat) (xs : Nat → Int32) (D : va_G) (cA cL : ClassId) : Prop :=
  l.stackTraces = false ∧ p.tables.exec = Jvm.exec ∧ cd.code = code ∧ cd.maxLocals = 7 ∧ s.vm.findClass RL = some m.cls ∧ (∀ w ∈ wsL_law, w.before #[Value.ref b] s = true) ∧ va_X b L xs s s.heap ∧ b < s.heap.size ∧ va_K D vwCl [(cA, .int), (cL, .long)] s ∧ zEnv s.heap.size s ∧ L ≤ 2560
abbrev zLW (h : Nat) (d : Nat → Nat) (hm : Nat) (d2 : Nat → Nat) (o : Nat) (cA cL : ClassId) (z : S7) (c : C5) (th : Int32) (g : Nat → Int64) : va_W := (wX h d cA z c ++ ((o, .inl (cL, 1, .inr (.inl g))) :: wM hm d2 cA th z c))
/-- behind a call: whatever it did, the loop goes on -/
def zKK (p : Program) (l : Launch) (e : Env) (s : State) (m : MethodId) (below : List Frame) (meth : Method) (cd : Code) (b : Nat) (D : va_G) (cA cL : ClassId) (h hm o : Nat) (d d2 : Nat → Nat) (i cells slots : Nat) : Prop :=
  ∀ (z : S7) (c : C5) (th : Int32) (g : Nat → Int64), okC c → okZ z → ∀ (H : Heap) (locs : List Loc), va_P D vwCl (zLW h d hm d2 o cA cL z c th g) H → va_D (zA s.heap.size) (zLW h d hm d2 o cA cL z c th g) → va_S (zA s.heap.size) s.heap H locs → ∀ (ls : Array Slot), lv_has ls 7 [(4, .int (nI i)), (3, .ref o), (2, .ref hm), (1, .ref h), (0, .ref b)] → W p l e room_1 s m #[Value.ref b] below meth cd H locs (cells + 1) (slots + 6) (lw_Z below #[Value.ref b] s) (F0 m 1254 ls [])

set_option maxHeartbeats 8000000 in
set_option maxRecDepth 100000 in
theorem law_0 {p : Program} {l : Launch} {e : Env} {s : State} {m : MethodId} {below : List Frame} {meth : Method} {cd : Code} {b L : Nat} {xs : Nat → Int32} {D : va_G} {cA cL : ClassId} (C9 : zC9 p l s m meth cd b L xs D cA cL) {h hm o : Nat} {d d2 : Nat → Nat} {z : S7} {c : C5} {th : Int32} {g : Nat → Int64} (hc : okC c) (hz : okZ z) {i : Nat} (hi : i + 5 ≤ L) {cells slots : Nat} (hce : cells + 1 ≤ 1045) (hsl : slots + 6 ≤ 8314) (kk : zKK p l e s m below meth cd b D cA cL h hm o d d2 i cells slots) {H : Heap} {locs : List Loc} (hP : va_P D vwCl (zLW h d hm d2 o cA cL z c th g) H) (hD : va_D (zA s.heap.size) (zLW h d hm d2 o cA cL z c th g)) (hS : va_S (zA s.heap.size) s.heap H locs) {ls : Array Slot} (hl : lv_has ls 7 [(4, .int (nI i)), (3, .ref o), (2, .ref hm), (1, .ref h), (0, .ref b)]) : W p l e room_1 s m #[Value.ref b] below meth cd H locs cells slots (lw_Z below #[Value.ref b] s) (F0 m 132 ls []) := by
  obtain ⟨hst, hx, hb, hml, hown, hts, hX, hbl, hK, hE, hL⟩ := C9
  have hbA : ¬ zA s.heap.size b := Nat.not_le.mpr hbl
  have hf0 : cells + 0 ≤ room_1.cells ∧ slots + 0 ≤ room_1.slots := ⟨by show cells + 0 ≤ 1045; omega, by show slots + 0 ≤ 8314; omega⟩
  have hf1 : cells + 1 ≤ room_1.cells ∧ slots + 6 ≤ room_1.slots := ⟨hce, hsl⟩
  by_cases hn : (0 ≤ (xs (nI (i + 1)).toNatClampNeg) ∧ (xs (nI (i + 1)).toNatClampNeg) ≤ 11) ∧ (0 ≤ (xs (nI (i + 2)).toNatClampNeg) ∧ (xs (nI (i + 2)).toNatClampNeg) ≤ 7)
  · obtain ⟨k1, hk1, e1⟩ := nI_of2 (n := 11) (M := 11) rfl (Int32.not_lt.mpr (hn.1).1) (hn.1).2
    obtain ⟨k2, hk2, e2⟩ := nI_of2 (n := 7) (M := 7) rfl (Int32.not_lt.mpr (hn.2).1) (hn.2).2
    refine lv_aload_n hx hb dL_law_132 rfl (lv_at hl 3 rfl) ?_
    refine lv_aload_n hx hb dL_law_133 rfl (lv_at hl 4 rfl) ?_
    refine lv_iload hx hb dL_law_134 (lv_at hl 0 rfl) ?_
    refine lv_iconst (v := 1) hx hb dL_law_136 (by decide) ?_
    refine lv_iadd hx hb dL_law_137 ?_
    rw [show (((nI i) + 1) : Int32) = (nI (i + 1)) from (nI_add i 1)]
    refine va_sld hx hb hX hbl hbA hS (vp_in_nI (by omega) (by omega)) dL_law_138 ?_
    rw [show ((xs (nI (i + 1)).toNatClampNeg) : Int32) = (nI k1) from e1]
    refine lv_aload_n hx hb dL_law_139 rfl (lv_at hl 4 rfl) ?_
    refine lv_iload hx hb dL_law_140 (lv_at hl 0 rfl) ?_
    refine lv_iconst (v := 2) hx hb dL_law_142 (by decide) ?_
    refine lv_iadd hx hb dL_law_143 ?_
    rw [show (((nI i) + 2) : Int32) = (nI (i + 2)) from (nI_add i 2)]
    refine va_sld hx hb hX hbl hbA hS (vp_in_nI (by omega) (by omega)) dL_law_144 ?_
    rw [show ((xs (nI (i + 2)).toNatClampNeg) : Int32) = (nI k2) from e2]
    refine lv_aload_n hx hb dL_law_145 rfl (lv_at hl 1 rfl) ?_
    refine va_calli (vx_runSW (As := [.ref h, .int (nI k1), .int (nI k2), .ref o]) (rest := []) ⟨hx, hb, hml, hown, hts⟩ (c_L_setScale_v l D s.heap.size cA cL (wM hm d2 cA (th) z c) h d z c o g k1 k2 hc (by omega) (by omega)) (vx_cwSW 4 hts gL_law_L_setScale rfl rfl rfl (by decide +kernel) ⟨Nat.le_of_ble_eq_true rfl, Nat.le_of_ble_eq_true rfl⟩) ⟨zPre.blind, zPre.call (Nat.le_refl _) hP hD hK hE hS⟩ rfl rfl hl.1 rfl (lv_room (Nat.le_of_ble_eq_true rfl)) dL_law_146 hf0) hS (fun _ _ h9 => h9) (fun _ h9 => h9) (fun r_146 _ t H locs ht hvm h_146 hB hz1 hk1 hS => ?_)
    have h_146 : r_146 = 0 := h_146
    subst h_146
    obtain ⟨hP, hD⟩ := hB
    rw [ht] at hP
    have hP : va_P D vwCl (wX h d cA ((zL (k1, k2, c.2.2.1, c.2.2.2.1, c.2.2.2.2) z.1).1, z.2.1, z.2.2.1, z.2.2.2.1, z.2.2.2.2.1, z.2.2.2.2.2.1, z.2.2.2.2.2.2) (k1, k2, c.2.2.1, c.2.2.2.1, c.2.2.2.2) ++ ((o, .inl (cL, 1, .inr (.inl (vp_updL g (0 : Int32).toNatClampNeg ((zL (k1, k2, c.2.2.1, c.2.2.2.1, c.2.2.2.2) z.1).2).toInt64)))) :: wM hm d2 cA (th) z c)) H := hP
    have hD : va_D (zA s.heap.size) (wX h d cA ((zL (k1, k2, c.2.2.1, c.2.2.2.1, c.2.2.2.2) z.1).1, z.2.1, z.2.2.1, z.2.2.2.1, z.2.2.2.2.1, z.2.2.2.2.2.1, z.2.2.2.2.2.2) (k1, k2, c.2.2.1, c.2.2.2.1, c.2.2.2.2) ++ ((o, .inl (cL, 1, .inr (.inl (vp_updL g (0 : Int32).toNatClampNeg ((zL (k1, k2, c.2.2.1, c.2.2.2.1, c.2.2.2.2) z.1).2).toInt64)))) :: wM hm d2 cA (th) z c)) := hD
    refine lv_istore (lv' := [(5, .int 0), (4, .int (nI i)), (3, .ref o), (2, .ref hm), (1, .ref h), (0, .ref b)]) hx hb dL_law_149 hl (by decide) rfl (fun ls hl => ?_)
    refine lv_aload_n hx hb dL_law_151 rfl (lv_at hl 3 rfl) ?_
    refine lv_aload_n hx hb dL_law_152 rfl (lv_at hl 5 rfl) ?_
    refine lv_iload hx hb dL_law_153 (lv_at hl 1 rfl) ?_
    refine lv_iconst (v := 1) hx hb dL_law_155 (by decide) ?_
    refine lv_iadd hx hb dL_law_156 ?_
    rw [show (((nI i) + 1) : Int32) = (nI (i + 1)) from (nI_add i 1)]
    refine va_sld hx hb hX hbl hbA hS (vp_in_nI (by omega) (by omega)) dL_law_157 ?_
    rw [show ((xs (nI (i + 1)).toNatClampNeg) : Int32) = (nI k1) from e1]
    refine lv_aload_n hx hb dL_law_158 rfl (lv_at hl 5 rfl) ?_
    refine lv_iload hx hb dL_law_159 (lv_at hl 1 rfl) ?_
    refine lv_iconst (v := 2) hx hb dL_law_161 (by decide) ?_
    refine lv_iadd hx hb dL_law_162 ?_
    rw [show (((nI i) + 2) : Int32) = (nI (i + 2)) from (nI_add i 2)]
    refine va_sld hx hb hX hbl hbA hS (vp_in_nI (by omega) (by omega)) dL_law_163 ?_
    rw [show ((xs (nI (i + 2)).toNatClampNeg) : Int32) = (nI k2) from e2]
    have hP : va_P D vwCl (wM hm d2 cA (th) z c ++ (wX h d cA ((zL (k1, k2, c.2.2.1, c.2.2.2.1, c.2.2.2.2) z.1).1, z.2.1, z.2.2.1, z.2.2.2.1, z.2.2.2.2.1, z.2.2.2.2.2.1, z.2.2.2.2.2.2) (k1, k2, c.2.2.1, c.2.2.2.1, c.2.2.2.2) ++ [(o, .inl (cL, 1, .inr (.inl (vp_updL g (0 : Int32).toNatClampNeg ((zL (k1, k2, c.2.2.1, c.2.2.2.1, c.2.2.2.2) z.1).2).toInt64))))])) H := hP.sub [9, 10, 11, 12, 13, 14, 15, 16, 0, 1, 2, 3, 4, 5, 6, 7, 8] rfl
    have hD : va_D (zA s.heap.size) (wM hm d2 cA (th) z c ++ (wX h d cA ((zL (k1, k2, c.2.2.1, c.2.2.2.1, c.2.2.2.2) z.1).1, z.2.1, z.2.2.1, z.2.2.2.1, z.2.2.2.2.1, z.2.2.2.2.2.1, z.2.2.2.2.2.2) (k1, k2, c.2.2.1, c.2.2.2.1, c.2.2.2.2) ++ [(o, .inl (cL, 1, .inr (.inl (vp_updL g (0 : Int32).toNatClampNeg ((zL (k1, k2, c.2.2.1, c.2.2.2.1, c.2.2.2.2) z.1).2).toInt64))))])) := hD.sub [9, 10, 11, 12, 13, 14, 15, 16, 0, 1, 2, 3, 4, 5, 6, 7, 8] (by decide) rfl
    refine va_calli (va_runV (As := [.int (nI k1), .int (nI k2)]) (rest := []) ⟨hx, hb, hml, hown, hts⟩ (c_X1_setScale_v l D s.heap.size cA cL (wX h d cA ((zL (k1, k2, c.2.2.1, c.2.2.2.1, c.2.2.2.2) z.1).1, z.2.1, z.2.2.1, z.2.2.2.1, z.2.2.2.2.1, z.2.2.2.2.2.1, z.2.2.2.2.2.2) (k1, k2, c.2.2.1, c.2.2.2.1, c.2.2.2.2) ++ [(o, .inl (cL, 1, .inr (.inl (vp_updL g (0 : Int32).toNatClampNeg ((zL (k1, k2, c.2.2.1, c.2.2.2.1, c.2.2.2.2) z.1).2).toInt64))))]) hm d2 (th) z c k1 k2 hc (by omega) (by omega) hz) (cwV 2 hts gL_law_X1_setScale rfl rfl rfl (by decide +kernel) ⟨Nat.le_of_ble_eq_true rfl, Nat.le_of_ble_eq_true rfl⟩) ⟨zPre.blind, va_recv hK hP (ci := 1) (q0 := 0) rfl rfl, zPre.call (Nat.le_refl _) hP hD hK hE hS⟩ rfl rfl hl.1 rfl (lv_room (Nat.le_of_ble_eq_true rfl)) dL_law_164 hf0) hS (fun _ _ h9 => h9) (fun _ h9 => h9) (fun r_164 _ t H locs ht hvm h_164 hB hz1 hk1 hS => ?_)
    have h_164 : r_164 = ((zL (k1, k2, c.2.2.1, c.2.2.2.1, c.2.2.2.2) z.1).2) := h_164
    subst h_164
    obtain ⟨hP, hD⟩ := hB
    rw [ht] at hP
    have hP : va_P D vwCl (wM hm d2 cA (0) ((zL (k1, k2, c.2.2.1, c.2.2.2.1, c.2.2.2.2) z.1).1, z.2.1, z.2.2.1, z.2.2.2.1, z.2.2.2.2.1, z.2.2.2.2.2.1, z.2.2.2.2.2.2) (k1, k2, c.2.2.1, c.2.2.2.1, c.2.2.2.2) ++ (wX h d cA ((zL (k1, k2, c.2.2.1, c.2.2.2.1, c.2.2.2.2) z.1).1, z.2.1, z.2.2.1, z.2.2.2.1, z.2.2.2.2.1, z.2.2.2.2.2.1, z.2.2.2.2.2.2) (k1, k2, c.2.2.1, c.2.2.2.1, c.2.2.2.2) ++ [(o, .inl (cL, 1, .inr (.inl (vp_updL g (0 : Int32).toNatClampNeg ((zL (k1, k2, c.2.2.1, c.2.2.2.1, c.2.2.2.2) z.1).2).toInt64))))])) H := hP
    have hD : va_D (zA s.heap.size) (wM hm d2 cA (0) ((zL (k1, k2, c.2.2.1, c.2.2.2.1, c.2.2.2.2) z.1).1, z.2.1, z.2.2.1, z.2.2.2.1, z.2.2.2.2.1, z.2.2.2.2.2.1, z.2.2.2.2.2.2) (k1, k2, c.2.2.1, c.2.2.2.1, c.2.2.2.2) ++ (wX h d cA ((zL (k1, k2, c.2.2.1, c.2.2.2.1, c.2.2.2.2) z.1).1, z.2.1, z.2.2.1, z.2.2.2.1, z.2.2.2.2.1, z.2.2.2.2.2.1, z.2.2.2.2.2.2) (k1, k2, c.2.2.1, c.2.2.2.1, c.2.2.2.2) ++ [(o, .inl (cL, 1, .inr (.inl (vp_updL g (0 : Int32).toNatClampNeg ((zL (k1, k2, c.2.2.1, c.2.2.2.1, c.2.2.2.2) z.1).2).toInt64))))])) := hD
    refine lv_istore (lv' := [(6, .int ((zL (k1, k2, c.2.2.1, c.2.2.2.1, c.2.2.2.2) z.1).2)), (5, .int 0), (4, .int (nI i)), (3, .ref o), (2, .ref hm), (1, .ref h), (0, .ref b)]) hx hb dL_law_167 hl (by decide) rfl (fun ls hl => ?_)
    refine lv_aload_n hx hb dL_law_169 rfl (lv_at hl 4 rfl) ?_
    refine vp_callSi ((va_runV (As := []) (rest := []) ⟨hx, hb, hml, hown, hts⟩ (c_X1_thrown l D s.heap.size cA cL (wX h d cA ((zL (k1, k2, c.2.2.1, c.2.2.2.1, c.2.2.2.2) z.1).1, z.2.1, z.2.2.1, z.2.2.2.1, z.2.2.2.2.1, z.2.2.2.2.2.1, z.2.2.2.2.2.2) (k1, k2, c.2.2.1, c.2.2.2.1, c.2.2.2.2) ++ [(o, .inl (cL, 1, .inr (.inl (vp_updL g (0 : Int32).toNatClampNeg ((zL (k1, k2, c.2.2.1, c.2.2.2.1, c.2.2.2.2) z.1).2).toInt64))))]) hm d2 (0) ((zL (k1, k2, c.2.2.1, c.2.2.2.1, c.2.2.2.2) z.1).1, z.2.1, z.2.2.1, z.2.2.2.1, z.2.2.2.2.1, z.2.2.2.2.2.1, z.2.2.2.2.2.2) (k1, k2, c.2.2.1, c.2.2.2.1, c.2.2.2.2)  ) (cwV 0 hts gL_law_X1_thrown rfl rfl rfl (by decide +kernel) ⟨Nat.le_of_ble_eq_true rfl, Nat.le_of_ble_eq_true rfl⟩) ⟨zPre.blind, va_recv hK hP (ci := 1) (q0 := 0) rfl rfl, zPre.call (Nat.le_refl _) hP hD hK hE hS⟩ rfl rfl hl.1 rfl (lv_room (Nat.le_of_ble_eq_true rfl)) dL_law_170 hf0).run) (fun r_170 h_170 => ?_)
    have h_170 : r_170 = 0 := h_170
    subst h_170
    refine lv_iload hx hb dL_law_173 (lv_at hl 1 rfl) ?_
    refine lv_icmp_eq (tgt := 180) hx hb dL_law_175 (by decide) (fun _ => ?_) (fun c_175 => absurd c_175 (by decide))
    refine lv_iload hx hb dL_law_180 (lv_at hl 1 rfl) ?_
    refine lv_if_ne (tgt := 197) hx hb dL_law_182 (by decide) (fun c_182 => absurd c_182 (by decide)) (fun _ => ?_)
    refine lv_aload_n hx hb dL_law_185 rfl (lv_at hl 3 rfl) ?_
    refine lv_iconst (v := 0) hx hb dL_law_186 (by decide) ?_
    have hP : va_P D vwCl (wX h d cA ((zL (k1, k2, c.2.2.1, c.2.2.2.1, c.2.2.2.2) z.1).1, z.2.1, z.2.2.1, z.2.2.2.1, z.2.2.2.2.1, z.2.2.2.2.2.1, z.2.2.2.2.2.2) (k1, k2, c.2.2.1, c.2.2.2.1, c.2.2.2.2) ++ ((o, .inl (cL, 1, .inr (.inl (vp_updL g (0 : Int32).toNatClampNeg ((zL (k1, k2, c.2.2.1, c.2.2.2.1, c.2.2.2.2) z.1).2).toInt64)))) :: wM hm d2 cA (0) ((zL (k1, k2, c.2.2.1, c.2.2.2.1, c.2.2.2.2) z.1).1, z.2.1, z.2.2.1, z.2.2.2.1, z.2.2.2.2.1, z.2.2.2.2.2.1, z.2.2.2.2.2.2) (k1, k2, c.2.2.1, c.2.2.2.1, c.2.2.2.2))) H := hP.sub [8, 9, 10, 11, 12, 13, 14, 15, 16, 0, 1, 2, 3, 4, 5, 6, 7] rfl
    have hD : va_D (zA s.heap.size) (wX h d cA ((zL (k1, k2, c.2.2.1, c.2.2.2.1, c.2.2.2.2) z.1).1, z.2.1, z.2.2.1, z.2.2.2.1, z.2.2.2.2.1, z.2.2.2.2.2.1, z.2.2.2.2.2.2) (k1, k2, c.2.2.1, c.2.2.2.1, c.2.2.2.2) ++ ((o, .inl (cL, 1, .inr (.inl (vp_updL g (0 : Int32).toNatClampNeg ((zL (k1, k2, c.2.2.1, c.2.2.2.1, c.2.2.2.2) z.1).2).toInt64)))) :: wM hm d2 cA (0) ((zL (k1, k2, c.2.2.1, c.2.2.2.1, c.2.2.2.2) z.1).1, z.2.1, z.2.2.1, z.2.2.2.1, z.2.2.2.2.1, z.2.2.2.2.2.1, z.2.2.2.2.2.2) (k1, k2, c.2.2.1, c.2.2.2.1, c.2.2.2.2))) := hD.sub [8, 9, 10, 11, 12, 13, 14, 15, 16, 0, 1, 2, 3, 4, 5, 6, 7] (by decide) rfl
    refine va_lald hx hb hK hP 8 1 rfl rfl (vp_in_nI (n := 0) (by decide) (by decide)) dL_law_187 ?_
    rw [show ((vp_updL g (0 : Int32).toNatClampNeg ((zL (k1, k2, c.2.2.1, c.2.2.2.1, c.2.2.2.2) z.1).2).toInt64) (0 : Int32).toNatClampNeg : Int64) = ((zL (k1, k2, c.2.2.1, c.2.2.2.1, c.2.2.2.2) z.1).2).toInt64 from pk_uLs]
    refine lv_iload hx hb dL_law_188 (lv_at hl 0 rfl) ?_
    refine lv_i2l hx hb dL_law_190 rfl ?_
    refine W.lcmp hx hb dL_law_191 ?_
    rw [show lg_cmp (((zL (k1, k2, c.2.2.1, c.2.2.2.1, c.2.2.2.2) z.1).2).toInt64) (((zL (k1, k2, c.2.2.1, c.2.2.2.1, c.2.2.2.2) z.1).2).toInt64) = 0 from zcmp _]
    refine lv_if_eq (tgt := 197) hx hb dL_law_192 (by decide) (fun _ => ?_) (fun c_192 => absurd c_192 (by decide))
    refine lv_goto (tgt := 1254) hx hb dL_law_197 (by decide) ?_
    refine W.widen (k := cells + 1) (n := slots + 6) (by omega) (by omega) ?_
    exact kk ((zL (k1, k2, c.2.2.1, c.2.2.2.1, c.2.2.2.2) z.1).1, z.2.1, z.2.2.1, z.2.2.2.1, z.2.2.2.2.1, z.2.2.2.2.2.1, z.2.2.2.2.2.2) (k1, k2, c.2.2.1, c.2.2.2.1, c.2.2.2.2) (0) (vp_updL g (0 : Int32).toNatClampNeg ((zL (k1, k2, c.2.2.1, c.2.2.2.1, c.2.2.2.2) z.1).2).toInt64) (⟨by show k1 < 12; omega, by show k2 < 8; omega, hc.2.2⟩) (zLn_ok hz 4) _ _ hP hD hS ls (lv_sub hl [2, 3, 4, 5, 6] rfl)
  · refine lv_aload_n hx hb dL_law_132 rfl (lv_at hl 3 rfl) ?_
    refine lv_aload_n hx hb dL_law_133 rfl (lv_at hl 4 rfl) ?_
    refine lv_iload hx hb dL_law_134 (lv_at hl 0 rfl) ?_
    refine lv_iconst (v := 1) hx hb dL_law_136 (by decide) ?_
    refine lv_iadd hx hb dL_law_137 ?_
    rw [show (((nI i) + 1) : Int32) = (nI (i + 1)) from (nI_add i 1)]
    refine va_sld hx hb hX hbl hbA hS (vp_in_nI (by omega) (by omega)) dL_law_138 ?_
    refine lv_aload_n hx hb dL_law_139 rfl (lv_at hl 4 rfl) ?_
    refine lv_iload hx hb dL_law_140 (lv_at hl 0 rfl) ?_
    refine lv_iconst (v := 2) hx hb dL_law_142 (by decide) ?_
    refine lv_iadd hx hb dL_law_143 ?_
    rw [show (((nI i) + 2) : Int32) = (nI (i + 2)) from (nI_add i 2)]
    refine va_sld hx hb hX hbl hbA hS (vp_in_nI (by omega) (by omega)) dL_law_144 ?_
    refine lv_aload_n hx hb dL_law_145 rfl (lv_at hl 1 rfl) ?_
    refine va_calli (vx_runSW (As := [.ref h, .int (xs (nI (i + 1)).toNatClampNeg), .int (xs (nI (i + 2)).toNatClampNeg), .ref o]) (rest := []) ⟨hx, hb, hml, hown, hts⟩ (c_L_setScale_1 l hst D s.heap.size cA cL (wM hm d2 cA (th) z c) h d z c o g (xs (nI (i + 1)).toNatClampNeg) (xs (nI (i + 2)).toNatClampNeg) hn) (vx_cwSW 4 hts gL_law_L_setScale rfl rfl rfl (by decide +kernel) ⟨Nat.le_of_ble_eq_true rfl, Nat.le_of_ble_eq_true rfl⟩) ⟨zPre.blind, zPre.call (Nat.le_refl _) hP hD hK hE hS⟩ rfl rfl hl.1 rfl (lv_room (Nat.le_of_ble_eq_true rfl)) dL_law_146 hf1) hS (fun _ _ h9 => h9) (fun _ h9 => h9) (fun r_146 _ t H locs ht hvm h_146 hB hz1 hk1 hS => ?_)
    have h_146 : r_146 = 1 := h_146
    subst h_146
    obtain ⟨hP, hD⟩ := hB
    rw [ht] at hP
    have hP : va_P D vwCl (wX h d cA z c ++ ((o, .inl (cL, 1, .inr (.inl g))) :: wM hm d2 cA (th) z c)) H := hP
    have hD : va_D (zA s.heap.size) (wX h d cA z c ++ ((o, .inl (cL, 1, .inr (.inl g))) :: wM hm d2 cA (th) z c)) := hD
    refine lv_istore (lv' := [(5, .int 1), (4, .int (nI i)), (3, .ref o), (2, .ref hm), (1, .ref h), (0, .ref b)]) hx hb dL_law_149 hl (by decide) rfl (fun ls hl => ?_)
    refine lv_aload_n hx hb dL_law_151 rfl (lv_at hl 3 rfl) ?_
    refine lv_aload_n hx hb dL_law_152 rfl (lv_at hl 5 rfl) ?_
    refine lv_iload hx hb dL_law_153 (lv_at hl 1 rfl) ?_
    refine lv_iconst (v := 1) hx hb dL_law_155 (by decide) ?_
    refine lv_iadd hx hb dL_law_156 ?_
    rw [show (((nI i) + 1) : Int32) = (nI (i + 1)) from (nI_add i 1)]
    refine va_sld hx hb hX hbl hbA hS (vp_in_nI (by omega) (by omega)) dL_law_157 ?_
    refine lv_aload_n hx hb dL_law_158 rfl (lv_at hl 5 rfl) ?_
    refine lv_iload hx hb dL_law_159 (lv_at hl 1 rfl) ?_
    refine lv_iconst (v := 2) hx hb dL_law_161 (by decide) ?_
    refine lv_iadd hx hb dL_law_162 ?_
    rw [show (((nI i) + 2) : Int32) = (nI (i + 2)) from (nI_add i 2)]
    refine va_sld hx hb hX hbl hbA hS (vp_in_nI (by omega) (by omega)) dL_law_163 ?_
    have hP : va_P D vwCl (wM hm d2 cA (th) z c ++ (wX h d cA z c ++ [(o, .inl (cL, 1, .inr (.inl g)))])) H := hP.sub [9, 10, 11, 12, 13, 14, 15, 16, 0, 1, 2, 3, 4, 5, 6, 7, 8] rfl
    have hD : va_D (zA s.heap.size) (wM hm d2 cA (th) z c ++ (wX h d cA z c ++ [(o, .inl (cL, 1, .inr (.inl g)))])) := hD.sub [9, 10, 11, 12, 13, 14, 15, 16, 0, 1, 2, 3, 4, 5, 6, 7, 8] (by decide) rfl
    refine va_calli (va_runV (As := [.int (xs (nI (i + 1)).toNatClampNeg), .int (xs (nI (i + 2)).toNatClampNeg)]) (rest := []) ⟨hx, hb, hml, hown, hts⟩ (c_X1_setScale_1 l D s.heap.size cA cL (wX h d cA z c ++ [(o, .inl (cL, 1, .inr (.inl g)))]) hm d2 (th) z c (xs (nI (i + 1)).toNatClampNeg) (xs (nI (i + 2)).toNatClampNeg) hn) (cwV 2 hts gL_law_X1_setScale rfl rfl rfl (by decide +kernel) ⟨Nat.le_of_ble_eq_true rfl, Nat.le_of_ble_eq_true rfl⟩) ⟨zPre.blind, va_recv hK hP (ci := 1) (q0 := 0) rfl rfl, zPre.call (Nat.le_refl _) hP hD hK hE hS⟩ rfl rfl hl.1 rfl (lv_room (Nat.le_of_ble_eq_true rfl)) dL_law_164 hf1) hS (fun _ _ h9 => h9) (fun _ h9 => h9) (fun r_164 _ t H locs ht hvm h_164 hB hz1 hk1 hS => ?_)
    have h_164 : r_164 = (0) := h_164
    subst h_164
    obtain ⟨hP, hD⟩ := hB
    rw [ht] at hP
    have hP : va_P D vwCl (wM hm d2 cA (1) z c ++ (wX h d cA z c ++ [(o, .inl (cL, 1, .inr (.inl g)))])) H := hP
    have hD : va_D (zA s.heap.size) (wM hm d2 cA (1) z c ++ (wX h d cA z c ++ [(o, .inl (cL, 1, .inr (.inl g)))])) := hD
    refine lv_istore (lv' := [(6, .int 0), (5, .int 1), (4, .int (nI i)), (3, .ref o), (2, .ref hm), (1, .ref h), (0, .ref b)]) hx hb dL_law_167 hl (by decide) rfl (fun ls hl => ?_)
    refine lv_aload_n hx hb dL_law_169 rfl (lv_at hl 4 rfl) ?_
    refine vp_callSi ((va_runV (As := []) (rest := []) ⟨hx, hb, hml, hown, hts⟩ (c_X1_thrown l D s.heap.size cA cL (wX h d cA z c ++ [(o, .inl (cL, 1, .inr (.inl g)))]) hm d2 (1) z c  ) (cwV 0 hts gL_law_X1_thrown rfl rfl rfl (by decide +kernel) ⟨Nat.le_of_ble_eq_true rfl, Nat.le_of_ble_eq_true rfl⟩) ⟨zPre.blind, va_recv hK hP (ci := 1) (q0 := 0) rfl rfl, zPre.call (Nat.le_refl _) hP hD hK hE hS⟩ rfl rfl hl.1 rfl (lv_room (Nat.le_of_ble_eq_true rfl)) dL_law_170 hf1).run) (fun r_170 h_170 => ?_)
    have h_170 : r_170 = 1 := h_170
    subst h_170
    refine lv_iload hx hb dL_law_173 (lv_at hl 1 rfl) ?_
    refine lv_icmp_eq (tgt := 180) hx hb dL_law_175 (by decide) (fun _ => ?_) (fun c_175 => absurd c_175 (by decide))
    refine lv_iload hx hb dL_law_180 (lv_at hl 1 rfl) ?_
    refine lv_if_ne (tgt := 197) hx hb dL_law_182 (by decide) (fun _ => ?_) (fun c_182 => absurd c_182 (by decide))
    refine lv_goto (tgt := 1254) hx hb dL_law_197 (by decide) ?_
    have hP : va_P D vwCl (wX h d cA z c ++ ((o, .inl (cL, 1, .inr (.inl g))) :: wM hm d2 cA (1) z c)) H := hP.sub [8, 9, 10, 11, 12, 13, 14, 15, 16, 0, 1, 2, 3, 4, 5, 6, 7] rfl
    have hD : va_D (zA s.heap.size) (wX h d cA z c ++ ((o, .inl (cL, 1, .inr (.inl g))) :: wM hm d2 cA (1) z c)) := hD.sub [8, 9, 10, 11, 12, 13, 14, 15, 16, 0, 1, 2, 3, 4, 5, 6, 7] (by decide) rfl
    refine W.widen (k := cells + 1) (n := slots + 6) (by omega) (by omega) ?_
    exact kk z c (1) g hc hz _ _ hP hD hS ls (lv_sub hl [2, 3, 4, 5, 6] rfl)

set_option maxHeartbeats 8000000 in
set_option maxRecDepth 100000 in
theorem law_1 {p : Program} {l : Launch} {e : Env} {s : State} {m : MethodId} {below : List Frame} {meth : Method} {cd : Code} {b L : Nat} {xs : Nat → Int32} {D : va_G} {cA cL : ClassId} (C9 : zC9 p l s m meth cd b L xs D cA cL) {h hm o : Nat} {d d2 : Nat → Nat} {z : S7} {c : C5} {th : Int32} {g : Nat → Int64} (hc : okC c) (hz : okZ z) {i : Nat} (hi : i + 5 ≤ L) {cells slots : Nat} (hce : cells + 1 ≤ 1045) (hsl : slots + 6 ≤ 8314) (kk : zKK p l e s m below meth cd b D cA cL h hm o d d2 i cells slots) {H : Heap} {locs : List Loc} (hP : va_P D vwCl (zLW h d hm d2 o cA cL z c th g) H) (hD : va_D (zA s.heap.size) (zLW h d hm d2 o cA cL z c th g)) (hS : va_S (zA s.heap.size) s.heap H locs) {ls : Array Slot} (hl : lv_has ls 7 [(4, .int (nI i)), (3, .ref o), (2, .ref hm), (1, .ref h), (0, .ref b)]) : W p l e room_1 s m #[Value.ref b] below meth cd H locs cells slots (lw_Z below #[Value.ref b] s) (F0 m 200 ls []) := by
  obtain ⟨hst, hx, hb, hml, hown, hts, hX, hbl, hK, hE, hL⟩ := C9
  have hbA : ¬ zA s.heap.size b := Nat.not_le.mpr hbl
  have hf0 : cells + 0 ≤ room_1.cells ∧ slots + 0 ≤ room_1.slots := ⟨by show cells + 0 ≤ 1045; omega, by show slots + 0 ≤ 8314; omega⟩
  have hf1 : cells + 1 ≤ room_1.cells ∧ slots + 6 ≤ room_1.slots := ⟨hce, hsl⟩
  by_cases hn : (0 ≤ (xs (nI (i + 1)).toNatClampNeg) ∧ (xs (nI (i + 1)).toNatClampNeg) ≤ 100) ∧ (0 ≤ (xs (nI (i + 2)).toNatClampNeg) ∧ (xs (nI (i + 2)).toNatClampNeg) ≤ 600) ∧ (0 ≤ (xs (nI (i + 3)).toNatClampNeg) ∧ (xs (nI (i + 3)).toNatClampNeg) ≤ 12000)
  · refine lv_aload_n hx hb dL_law_200 rfl (lv_at hl 3 rfl) ?_
    refine lv_aload_n hx hb dL_law_201 rfl (lv_at hl 4 rfl) ?_
    refine lv_iload hx hb dL_law_202 (lv_at hl 0 rfl) ?_
    refine lv_iconst (v := 1) hx hb dL_law_204 (by decide) ?_
    refine lv_iadd hx hb dL_law_205 ?_
    rw [show (((nI i) + 1) : Int32) = (nI (i + 1)) from (nI_add i 1)]
    refine va_sld hx hb hX hbl hbA hS (vp_in_nI (by omega) (by omega)) dL_law_206 ?_
    refine lv_aload_n hx hb dL_law_207 rfl (lv_at hl 4 rfl) ?_
    refine lv_iload hx hb dL_law_208 (lv_at hl 0 rfl) ?_
    refine lv_iconst (v := 2) hx hb dL_law_210 (by decide) ?_
    refine lv_iadd hx hb dL_law_211 ?_
    rw [show (((nI i) + 2) : Int32) = (nI (i + 2)) from (nI_add i 2)]
    refine va_sld hx hb hX hbl hbA hS (vp_in_nI (by omega) (by omega)) dL_law_212 ?_
    refine lv_aload_n hx hb dL_law_213 rfl (lv_at hl 4 rfl) ?_
    refine lv_iload hx hb dL_law_214 (lv_at hl 0 rfl) ?_
    refine lv_iconst (v := 3) hx hb dL_law_216 (by decide) ?_
    refine lv_iadd hx hb dL_law_217 ?_
    rw [show (((nI i) + 3) : Int32) = (nI (i + 3)) from (nI_add i 3)]
    refine va_sld hx hb hX hbl hbA hS (vp_in_nI (by omega) (by omega)) dL_law_218 ?_
    refine va_calli (vx_runSW (As := [.ref h, .int (xs (nI (i + 1)).toNatClampNeg), .int (xs (nI (i + 2)).toNatClampNeg), .int (xs (nI (i + 3)).toNatClampNeg)]) (rest := []) ⟨hx, hb, hml, hown, hts⟩ (c_L_setNudging_v l D s.heap.size cA cL ((o, .inl (cL, 1, .inr (.inl g))) :: wM hm d2 cA (th) z c) h d z c (xs (nI (i + 1)).toNatClampNeg) (xs (nI (i + 2)).toNatClampNeg) (xs (nI (i + 3)).toNatClampNeg) hn.1 hn.2.1 hn.2.2) (vx_cwSW 4 hts gL_law_L_setNudging rfl rfl rfl (by decide +kernel) ⟨Nat.le_of_ble_eq_true rfl, Nat.le_of_ble_eq_true rfl⟩) ⟨zPre.blind, zPre.call (Nat.le_refl _) hP hD hK hE hS⟩ rfl rfl hl.1 rfl (lv_room (Nat.le_of_ble_eq_true rfl)) dL_law_219 hf0) hS (fun _ _ h9 => h9) (fun _ h9 => h9) (fun r_219 _ t H locs ht hvm h_219 hB hz1 hk1 hS => ?_)
    have h_219 : r_219 = 0 := h_219
    subst h_219
    obtain ⟨hP, hD⟩ := hB
    rw [ht] at hP
    have hP : va_P D vwCl (wX h d cA z (c.1, c.2.1, (xs (nI (i + 1)).toNatClampNeg), (xs (nI (i + 2)).toNatClampNeg), (xs (nI (i + 3)).toNatClampNeg)) ++ ((o, .inl (cL, 1, .inr (.inl g))) :: wM hm d2 cA (th) z c)) H := hP
    have hD : va_D (zA s.heap.size) (wX h d cA z (c.1, c.2.1, (xs (nI (i + 1)).toNatClampNeg), (xs (nI (i + 2)).toNatClampNeg), (xs (nI (i + 3)).toNatClampNeg)) ++ ((o, .inl (cL, 1, .inr (.inl g))) :: wM hm d2 cA (th) z c)) := hD
    refine lv_istore (lv' := [(5, .int 0), (4, .int (nI i)), (3, .ref o), (2, .ref hm), (1, .ref h), (0, .ref b)]) hx hb dL_law_222 hl (by decide) rfl (fun ls hl => ?_)
    refine lv_aload_n hx hb dL_law_224 rfl (lv_at hl 3 rfl) ?_
    refine lv_aload_n hx hb dL_law_225 rfl (lv_at hl 5 rfl) ?_
    refine lv_iload hx hb dL_law_226 (lv_at hl 1 rfl) ?_
    refine lv_iconst (v := 1) hx hb dL_law_228 (by decide) ?_
    refine lv_iadd hx hb dL_law_229 ?_
    rw [show (((nI i) + 1) : Int32) = (nI (i + 1)) from (nI_add i 1)]
    refine va_sld hx hb hX hbl hbA hS (vp_in_nI (by omega) (by omega)) dL_law_230 ?_
    refine lv_aload_n hx hb dL_law_231 rfl (lv_at hl 5 rfl) ?_
    refine lv_iload hx hb dL_law_232 (lv_at hl 1 rfl) ?_
    refine lv_iconst (v := 2) hx hb dL_law_234 (by decide) ?_
    refine lv_iadd hx hb dL_law_235 ?_
    rw [show (((nI i) + 2) : Int32) = (nI (i + 2)) from (nI_add i 2)]
    refine va_sld hx hb hX hbl hbA hS (vp_in_nI (by omega) (by omega)) dL_law_236 ?_
    refine lv_aload_n hx hb dL_law_237 rfl (lv_at hl 5 rfl) ?_
    refine lv_iload hx hb dL_law_238 (lv_at hl 1 rfl) ?_
    refine lv_iconst (v := 3) hx hb dL_law_240 (by decide) ?_
    refine lv_iadd hx hb dL_law_241 ?_
    rw [show (((nI i) + 3) : Int32) = (nI (i + 3)) from (nI_add i 3)]
    refine va_sld hx hb hX hbl hbA hS (vp_in_nI (by omega) (by omega)) dL_law_242 ?_
    have hP : va_P D vwCl (wM hm d2 cA (th) z c ++ (wX h d cA z (c.1, c.2.1, (xs (nI (i + 1)).toNatClampNeg), (xs (nI (i + 2)).toNatClampNeg), (xs (nI (i + 3)).toNatClampNeg)) ++ [(o, .inl (cL, 1, .inr (.inl g)))])) H := hP.sub [9, 10, 11, 12, 13, 14, 15, 16, 0, 1, 2, 3, 4, 5, 6, 7, 8] rfl
    have hD : va_D (zA s.heap.size) (wM hm d2 cA (th) z c ++ (wX h d cA z (c.1, c.2.1, (xs (nI (i + 1)).toNatClampNeg), (xs (nI (i + 2)).toNatClampNeg), (xs (nI (i + 3)).toNatClampNeg)) ++ [(o, .inl (cL, 1, .inr (.inl g)))])) := hD.sub [9, 10, 11, 12, 13, 14, 15, 16, 0, 1, 2, 3, 4, 5, 6, 7, 8] (by decide) rfl
    refine va_callv (va_runV (As := [.int (xs (nI (i + 1)).toNatClampNeg), .int (xs (nI (i + 2)).toNatClampNeg), .int (xs (nI (i + 3)).toNatClampNeg)]) (rest := []) ⟨hx, hb, hml, hown, hts⟩ (c_X1_setNudging_v l D s.heap.size cA cL (wX h d cA z (c.1, c.2.1, (xs (nI (i + 1)).toNatClampNeg), (xs (nI (i + 2)).toNatClampNeg), (xs (nI (i + 3)).toNatClampNeg)) ++ [(o, .inl (cL, 1, .inr (.inl g)))]) hm d2 (th) z c (xs (nI (i + 1)).toNatClampNeg) (xs (nI (i + 2)).toNatClampNeg) (xs (nI (i + 3)).toNatClampNeg) hn.1 hn.2.1 hn.2.2) (cwV 3 hts gL_law_X1_setNudging rfl rfl rfl (by decide +kernel) ⟨Nat.le_of_ble_eq_true rfl, Nat.le_of_ble_eq_true rfl⟩) ⟨zPre.blind, va_recv hK hP (ci := 1) (q0 := 0) rfl rfl, zPre.call (Nat.le_refl _) hP hD hK hE hS⟩ rfl rfl hl.1 rfl (lv_room (Nat.le_of_ble_eq_true rfl)) dL_law_243 hf0) hS (fun _ _ h9 => h9) (fun _ h9 => h9) (fun _ t H locs ht hvm h_243 hB hz1 hk1 hS => ?_)
    obtain ⟨hP, hD⟩ := hB
    rw [ht] at hP
    have hP : va_P D vwCl (wM hm d2 cA (0) z (c.1, c.2.1, (xs (nI (i + 1)).toNatClampNeg), (xs (nI (i + 2)).toNatClampNeg), (xs (nI (i + 3)).toNatClampNeg)) ++ (wX h d cA z (c.1, c.2.1, (xs (nI (i + 1)).toNatClampNeg), (xs (nI (i + 2)).toNatClampNeg), (xs (nI (i + 3)).toNatClampNeg)) ++ [(o, .inl (cL, 1, .inr (.inl g)))])) H := hP
    have hD : va_D (zA s.heap.size) (wM hm d2 cA (0) z (c.1, c.2.1, (xs (nI (i + 1)).toNatClampNeg), (xs (nI (i + 2)).toNatClampNeg), (xs (nI (i + 3)).toNatClampNeg)) ++ (wX h d cA z (c.1, c.2.1, (xs (nI (i + 1)).toNatClampNeg), (xs (nI (i + 2)).toNatClampNeg), (xs (nI (i + 3)).toNatClampNeg)) ++ [(o, .inl (cL, 1, .inr (.inl g)))])) := hD
    refine lv_aload_n hx hb dL_law_246 rfl (lv_at hl 3 rfl) ?_
    refine vp_callSi ((va_runV (As := []) (rest := []) ⟨hx, hb, hml, hown, hts⟩ (c_X1_thrown l D s.heap.size cA cL (wX h d cA z (c.1, c.2.1, (xs (nI (i + 1)).toNatClampNeg), (xs (nI (i + 2)).toNatClampNeg), (xs (nI (i + 3)).toNatClampNeg)) ++ [(o, .inl (cL, 1, .inr (.inl g)))]) hm d2 (0) z (c.1, c.2.1, (xs (nI (i + 1)).toNatClampNeg), (xs (nI (i + 2)).toNatClampNeg), (xs (nI (i + 3)).toNatClampNeg))  ) (cwV 0 hts gL_law_X1_thrown rfl rfl rfl (by decide +kernel) ⟨Nat.le_of_ble_eq_true rfl, Nat.le_of_ble_eq_true rfl⟩) ⟨zPre.blind, va_recv hK hP (ci := 1) (q0 := 0) rfl rfl, zPre.call (Nat.le_refl _) hP hD hK hE hS⟩ rfl rfl hl.1 rfl (lv_room (Nat.le_of_ble_eq_true rfl)) dL_law_247 hf0).run) (fun r_247 h_247 => ?_)
    have h_247 : r_247 = 0 := h_247
    subst h_247
    refine lv_iload hx hb dL_law_250 (lv_at hl 0 rfl) ?_
    refine lv_icmp_eq (tgt := 257) hx hb dL_law_252 (by decide) (fun _ => ?_) (fun c_252 => absurd c_252 (by decide))
    refine lv_goto (tgt := 1254) hx hb dL_law_257 (by decide) ?_
    have hP : va_P D vwCl (wX h d cA z (c.1, c.2.1, (xs (nI (i + 1)).toNatClampNeg), (xs (nI (i + 2)).toNatClampNeg), (xs (nI (i + 3)).toNatClampNeg)) ++ ((o, .inl (cL, 1, .inr (.inl g))) :: wM hm d2 cA (0) z (c.1, c.2.1, (xs (nI (i + 1)).toNatClampNeg), (xs (nI (i + 2)).toNatClampNeg), (xs (nI (i + 3)).toNatClampNeg)))) H := hP.sub [8, 9, 10, 11, 12, 13, 14, 15, 16, 0, 1, 2, 3, 4, 5, 6, 7] rfl
    have hD : va_D (zA s.heap.size) (wX h d cA z (c.1, c.2.1, (xs (nI (i + 1)).toNatClampNeg), (xs (nI (i + 2)).toNatClampNeg), (xs (nI (i + 3)).toNatClampNeg)) ++ ((o, .inl (cL, 1, .inr (.inl g))) :: wM hm d2 cA (0) z (c.1, c.2.1, (xs (nI (i + 1)).toNatClampNeg), (xs (nI (i + 2)).toNatClampNeg), (xs (nI (i + 3)).toNatClampNeg)))) := hD.sub [8, 9, 10, 11, 12, 13, 14, 15, 16, 0, 1, 2, 3, 4, 5, 6, 7] (by decide) rfl
    refine W.widen (k := cells + 1) (n := slots + 6) (by omega) (by omega) ?_
    exact kk z (c.1, c.2.1, (xs (nI (i + 1)).toNatClampNeg), (xs (nI (i + 2)).toNatClampNeg), (xs (nI (i + 3)).toNatClampNeg)) (0) g (⟨hc.1, hc.2.1, hn.1.1⟩) hz _ _ hP hD hS ls (lv_sub hl [1, 2, 3, 4, 5] rfl)
  · refine lv_aload_n hx hb dL_law_200 rfl (lv_at hl 3 rfl) ?_
    refine lv_aload_n hx hb dL_law_201 rfl (lv_at hl 4 rfl) ?_
    refine lv_iload hx hb dL_law_202 (lv_at hl 0 rfl) ?_
    refine lv_iconst (v := 1) hx hb dL_law_204 (by decide) ?_
    refine lv_iadd hx hb dL_law_205 ?_
    rw [show (((nI i) + 1) : Int32) = (nI (i + 1)) from (nI_add i 1)]
    refine va_sld hx hb hX hbl hbA hS (vp_in_nI (by omega) (by omega)) dL_law_206 ?_
    refine lv_aload_n hx hb dL_law_207 rfl (lv_at hl 4 rfl) ?_
    refine lv_iload hx hb dL_law_208 (lv_at hl 0 rfl) ?_
    refine lv_iconst (v := 2) hx hb dL_law_210 (by decide) ?_
    refine lv_iadd hx hb dL_law_211 ?_
    rw [show (((nI i) + 2) : Int32) = (nI (i + 2)) from (nI_add i 2)]
    refine va_sld hx hb hX hbl hbA hS (vp_in_nI (by omega) (by omega)) dL_law_212 ?_
    refine lv_aload_n hx hb dL_law_213 rfl (lv_at hl 4 rfl) ?_
    refine lv_iload hx hb dL_law_214 (lv_at hl 0 rfl) ?_
    refine lv_iconst (v := 3) hx hb dL_law_216 (by decide) ?_
    refine lv_iadd hx hb dL_law_217 ?_
    rw [show (((nI i) + 3) : Int32) = (nI (i + 3)) from (nI_add i 3)]
    refine va_sld hx hb hX hbl hbA hS (vp_in_nI (by omega) (by omega)) dL_law_218 ?_
    refine va_calli (vx_runSW (As := [.ref h, .int (xs (nI (i + 1)).toNatClampNeg), .int (xs (nI (i + 2)).toNatClampNeg), .int (xs (nI (i + 3)).toNatClampNeg)]) (rest := []) ⟨hx, hb, hml, hown, hts⟩ (c_L_setNudging_1 l hst D s.heap.size cA cL ((o, .inl (cL, 1, .inr (.inl g))) :: wM hm d2 cA (th) z c) h d z c (xs (nI (i + 1)).toNatClampNeg) (xs (nI (i + 2)).toNatClampNeg) (xs (nI (i + 3)).toNatClampNeg) hn) (vx_cwSW 4 hts gL_law_L_setNudging rfl rfl rfl (by decide +kernel) ⟨Nat.le_of_ble_eq_true rfl, Nat.le_of_ble_eq_true rfl⟩) ⟨zPre.blind, zPre.call (Nat.le_refl _) hP hD hK hE hS⟩ rfl rfl hl.1 rfl (lv_room (Nat.le_of_ble_eq_true rfl)) dL_law_219 hf1) hS (fun _ _ h9 => h9) (fun _ h9 => h9) (fun r_219 _ t H locs ht hvm h_219 hB hz1 hk1 hS => ?_)
    have h_219 : r_219 = 1 := h_219
    subst h_219
    obtain ⟨hP, hD⟩ := hB
    rw [ht] at hP
    have hP : va_P D vwCl (wX h d cA z c ++ ((o, .inl (cL, 1, .inr (.inl g))) :: wM hm d2 cA (th) z c)) H := hP
    have hD : va_D (zA s.heap.size) (wX h d cA z c ++ ((o, .inl (cL, 1, .inr (.inl g))) :: wM hm d2 cA (th) z c)) := hD
    refine lv_istore (lv' := [(5, .int 1), (4, .int (nI i)), (3, .ref o), (2, .ref hm), (1, .ref h), (0, .ref b)]) hx hb dL_law_222 hl (by decide) rfl (fun ls hl => ?_)
    refine lv_aload_n hx hb dL_law_224 rfl (lv_at hl 3 rfl) ?_
    refine lv_aload_n hx hb dL_law_225 rfl (lv_at hl 5 rfl) ?_
    refine lv_iload hx hb dL_law_226 (lv_at hl 1 rfl) ?_
    refine lv_iconst (v := 1) hx hb dL_law_228 (by decide) ?_
    refine lv_iadd hx hb dL_law_229 ?_
    rw [show (((nI i) + 1) : Int32) = (nI (i + 1)) from (nI_add i 1)]
    refine va_sld hx hb hX hbl hbA hS (vp_in_nI (by omega) (by omega)) dL_law_230 ?_
    refine lv_aload_n hx hb dL_law_231 rfl (lv_at hl 5 rfl) ?_
    refine lv_iload hx hb dL_law_232 (lv_at hl 1 rfl) ?_
    refine lv_iconst (v := 2) hx hb dL_law_234 (by decide) ?_
    refine lv_iadd hx hb dL_law_235 ?_
    rw [show (((nI i) + 2) : Int32) = (nI (i + 2)) from (nI_add i 2)]
    refine va_sld hx hb hX hbl hbA hS (vp_in_nI (by omega) (by omega)) dL_law_236 ?_
    refine lv_aload_n hx hb dL_law_237 rfl (lv_at hl 5 rfl) ?_
    refine lv_iload hx hb dL_law_238 (lv_at hl 1 rfl) ?_
    refine lv_iconst (v := 3) hx hb dL_law_240 (by decide) ?_
    refine lv_iadd hx hb dL_law_241 ?_
    rw [show (((nI i) + 3) : Int32) = (nI (i + 3)) from (nI_add i 3)]
    refine va_sld hx hb hX hbl hbA hS (vp_in_nI (by omega) (by omega)) dL_law_242 ?_
    have hP : va_P D vwCl (wM hm d2 cA (th) z c ++ (wX h d cA z c ++ [(o, .inl (cL, 1, .inr (.inl g)))])) H := hP.sub [9, 10, 11, 12, 13, 14, 15, 16, 0, 1, 2, 3, 4, 5, 6, 7, 8] rfl
    have hD : va_D (zA s.heap.size) (wM hm d2 cA (th) z c ++ (wX h d cA z c ++ [(o, .inl (cL, 1, .inr (.inl g)))])) := hD.sub [9, 10, 11, 12, 13, 14, 15, 16, 0, 1, 2, 3, 4, 5, 6, 7, 8] (by decide) rfl
    refine va_callv (va_runV (As := [.int (xs (nI (i + 1)).toNatClampNeg), .int (xs (nI (i + 2)).toNatClampNeg), .int (xs (nI (i + 3)).toNatClampNeg)]) (rest := []) ⟨hx, hb, hml, hown, hts⟩ (c_X1_setNudging_1 l D s.heap.size cA cL (wX h d cA z c ++ [(o, .inl (cL, 1, .inr (.inl g)))]) hm d2 (th) z c (xs (nI (i + 1)).toNatClampNeg) (xs (nI (i + 2)).toNatClampNeg) (xs (nI (i + 3)).toNatClampNeg) hn) (cwV 3 hts gL_law_X1_setNudging rfl rfl rfl (by decide +kernel) ⟨Nat.le_of_ble_eq_true rfl, Nat.le_of_ble_eq_true rfl⟩) ⟨zPre.blind, va_recv hK hP (ci := 1) (q0 := 0) rfl rfl, zPre.call (Nat.le_refl _) hP hD hK hE hS⟩ rfl rfl hl.1 rfl (lv_room (Nat.le_of_ble_eq_true rfl)) dL_law_243 hf1) hS (fun _ _ h9 => h9) (fun _ h9 => h9) (fun _ t H locs ht hvm h_243 hB hz1 hk1 hS => ?_)
    obtain ⟨hP, hD⟩ := hB
    rw [ht] at hP
    have hP : va_P D vwCl (wM hm d2 cA (1) z c ++ (wX h d cA z c ++ [(o, .inl (cL, 1, .inr (.inl g)))])) H := hP
    have hD : va_D (zA s.heap.size) (wM hm d2 cA (1) z c ++ (wX h d cA z c ++ [(o, .inl (cL, 1, .inr (.inl g)))])) := hD
    refine lv_aload_n hx hb dL_law_246 rfl (lv_at hl 3 rfl) ?_
    refine vp_callSi ((va_runV (As := []) (rest := []) ⟨hx, hb, hml, hown, hts⟩ (c_X1_thrown l D s.heap.size cA cL (wX h d cA z c ++ [(o, .inl (cL, 1, .inr (.inl g)))]) hm d2 (1) z c  ) (cwV 0 hts gL_law_X1_thrown rfl rfl rfl (by decide +kernel) ⟨Nat.le_of_ble_eq_true rfl, Nat.le_of_ble_eq_true rfl⟩) ⟨zPre.blind, va_recv hK hP (ci := 1) (q0 := 0) rfl rfl, zPre.call (Nat.le_refl _) hP hD hK hE hS⟩ rfl rfl hl.1 rfl (lv_room (Nat.le_of_ble_eq_true rfl)) dL_law_247 hf1).run) (fun r_247 h_247 => ?_)
    have h_247 : r_247 = 1 := h_247
    subst h_247
    refine lv_iload hx hb dL_law_250 (lv_at hl 0 rfl) ?_
    refine lv_icmp_eq (tgt := 257) hx hb dL_law_252 (by decide) (fun _ => ?_) (fun c_252 => absurd c_252 (by decide))
    refine lv_goto (tgt := 1254) hx hb dL_law_257 (by decide) ?_
    have hP : va_P D vwCl (wX h d cA z c ++ ((o, .inl (cL, 1, .inr (.inl g))) :: wM hm d2 cA (1) z c)) H := hP.sub [8, 9, 10, 11, 12, 13, 14, 15, 16, 0, 1, 2, 3, 4, 5, 6, 7] rfl
    have hD : va_D (zA s.heap.size) (wX h d cA z c ++ ((o, .inl (cL, 1, .inr (.inl g))) :: wM hm d2 cA (1) z c)) := hD.sub [8, 9, 10, 11, 12, 13, 14, 15, 16, 0, 1, 2, 3, 4, 5, 6, 7] (by decide) rfl
    refine W.widen (k := cells + 1) (n := slots + 6) (by omega) (by omega) ?_
    exact kk z c (1) g hc hz _ _ hP hD hS ls (lv_sub hl [1, 2, 3, 4, 5] rfl)

set_option maxHeartbeats 8000000 in
set_option maxRecDepth 100000 in
theorem law_2 {p : Program} {l : Launch} {e : Env} {s : State} {m : MethodId} {below : List Frame} {meth : Method} {cd : Code} {b L : Nat} {xs : Nat → Int32} {D : va_G} {cA cL : ClassId} (C9 : zC9 p l s m meth cd b L xs D cA cL) {h hm o : Nat} {d d2 : Nat → Nat} {z : S7} {c : C5} {th : Int32} {g : Nat → Int64} (hc : okC c) (hz : okZ z) {i : Nat} (hi : i + 5 ≤ L) {cells slots : Nat} (hce : cells + 1 ≤ 1045) (hsl : slots + 6 ≤ 8314) (kk : zKK p l e s m below meth cd b D cA cL h hm o d d2 i cells slots) {H : Heap} {locs : List Loc} (hP : va_P D vwCl (zLW h d hm d2 o cA cL z c th g) H) (hD : va_D (zA s.heap.size) (zLW h d hm d2 o cA cL z c th g)) (hS : va_S (zA s.heap.size) s.heap H locs) {ls : Array Slot} (hl : lv_has ls 7 [(4, .int (nI i)), (3, .ref o), (2, .ref hm), (1, .ref h), (0, .ref b)]) : W p l e room_1 s m #[Value.ref b] below meth cd H locs cells slots (lw_Z below #[Value.ref b] s) (F0 m 260 ls []) := by
  obtain ⟨hst, hx, hb, hml, hown, hts, hX, hbl, hK, hE, hL⟩ := C9
  have hbA : ¬ zA s.heap.size b := Nat.not_le.mpr hbl
  have hf0 : cells + 0 ≤ room_1.cells ∧ slots + 0 ≤ room_1.slots := ⟨by show cells + 0 ≤ 1045; omega, by show slots + 0 ≤ 8314; omega⟩
  have hf1 : cells + 1 ≤ room_1.cells ∧ slots + 6 ≤ room_1.slots := ⟨hce, hsl⟩
  by_cases hw : zw (xs (nI (i + 1)).toNatClampNeg)
  · by_cases hp : zp (xs (nI (i + 2)).toNatClampNeg)
    · refine lv_aload_n hx hb dL_law_260 rfl (lv_at hl 3 rfl) ?_
      refine lv_aload_n hx hb dL_law_261 rfl (lv_at hl 4 rfl) ?_
      refine lv_iload hx hb dL_law_262 (lv_at hl 0 rfl) ?_
      refine lv_iconst (v := 1) hx hb dL_law_264 (by decide) ?_
      refine lv_iadd hx hb dL_law_265 ?_
      rw [show (((nI i) + 1) : Int32) = (nI (i + 1)) from (nI_add i 1)]
      refine va_sld hx hb hX hbl hbA hS (vp_in_nI (by omega) (by omega)) dL_law_266 ?_
      refine lv_aload_n hx hb dL_law_267 rfl (lv_at hl 4 rfl) ?_
      refine lv_iload hx hb dL_law_268 (lv_at hl 0 rfl) ?_
      refine lv_iconst (v := 2) hx hb dL_law_270 (by decide) ?_
      refine lv_iadd hx hb dL_law_271 ?_
      rw [show (((nI i) + 2) : Int32) = (nI (i + 2)) from (nI_add i 2)]
      refine va_sld hx hb hX hbl hbA hS (vp_in_nI (by omega) (by omega)) dL_law_272 ?_
      refine lv_aload_n hx hb dL_law_273 rfl (lv_at hl 1 rfl) ?_
      refine va_calli (vx_runSW (As := [.ref h, .int (xs (nI (i + 1)).toNatClampNeg), .int (xs (nI (i + 2)).toNatClampNeg), .ref o]) (rest := []) ⟨hx, hb, hml, hown, hts⟩ (c_L_sing_v l D s.heap.size cA cL (wM hm d2 cA (th) z c) h d z c o g (xs (nI (i + 1)).toNatClampNeg) (xs (nI (i + 2)).toNatClampNeg) hc hw hp) (vx_cwSW 4 hts gL_law_L_sing rfl rfl rfl (by decide +kernel) ⟨Nat.le_of_ble_eq_true rfl, Nat.le_of_ble_eq_true rfl⟩) ⟨zPre.blind, zPre.call (Nat.le_refl _) hP hD hK hE hS⟩ rfl rfl hl.1 rfl (lv_room (Nat.le_of_ble_eq_true rfl)) dL_law_274 hf0) hS (fun _ _ h9 => h9) (fun _ h9 => h9) (fun r_274 _ t H locs ht hvm h_274 hB hz1 hk1 hS => ?_)
      have h_274 : r_274 = 0 := h_274
      subst h_274
      obtain ⟨hP, hD⟩ := hB
      rw [ht] at hP
      have hP : va_P D vwCl (wX h d cA (zSg c (xs (nI (i + 1)).toNatClampNeg).toNatClampNeg (xs (nI (i + 2)).toNatClampNeg) z) c ++ ((o, .inl (cL, 1, .inr (.inl (vp_updL g (0 : Int32).toNatClampNeg (zOut c (xs (nI (i + 1)).toNatClampNeg).toNatClampNeg (xs (nI (i + 2)).toNatClampNeg) z).toInt64)))) :: wM hm d2 cA (th) z c)) H := hP
      have hD : va_D (zA s.heap.size) (wX h d cA (zSg c (xs (nI (i + 1)).toNatClampNeg).toNatClampNeg (xs (nI (i + 2)).toNatClampNeg) z) c ++ ((o, .inl (cL, 1, .inr (.inl (vp_updL g (0 : Int32).toNatClampNeg (zOut c (xs (nI (i + 1)).toNatClampNeg).toNatClampNeg (xs (nI (i + 2)).toNatClampNeg) z).toInt64)))) :: wM hm d2 cA (th) z c)) := hD
      refine lv_istore (lv' := [(5, .int 0), (4, .int (nI i)), (3, .ref o), (2, .ref hm), (1, .ref h), (0, .ref b)]) hx hb dL_law_277 hl (by decide) rfl (fun ls hl => ?_)
      refine lv_aload_n hx hb dL_law_279 rfl (lv_at hl 3 rfl) ?_
      refine lv_aload_n hx hb dL_law_280 rfl (lv_at hl 5 rfl) ?_
      refine lv_iload hx hb dL_law_281 (lv_at hl 1 rfl) ?_
      refine lv_iconst (v := 1) hx hb dL_law_283 (by decide) ?_
      refine lv_iadd hx hb dL_law_284 ?_
      rw [show (((nI i) + 1) : Int32) = (nI (i + 1)) from (nI_add i 1)]
      refine va_sld hx hb hX hbl hbA hS (vp_in_nI (by omega) (by omega)) dL_law_285 ?_
      refine lv_aload_n hx hb dL_law_286 rfl (lv_at hl 5 rfl) ?_
      refine lv_iload hx hb dL_law_287 (lv_at hl 1 rfl) ?_
      refine lv_iconst (v := 2) hx hb dL_law_289 (by decide) ?_
      refine lv_iadd hx hb dL_law_290 ?_
      rw [show (((nI i) + 2) : Int32) = (nI (i + 2)) from (nI_add i 2)]
      refine va_sld hx hb hX hbl hbA hS (vp_in_nI (by omega) (by omega)) dL_law_291 ?_
      have hP : va_P D vwCl (wM hm d2 cA (th) z c ++ (wX h d cA (zSg c (xs (nI (i + 1)).toNatClampNeg).toNatClampNeg (xs (nI (i + 2)).toNatClampNeg) z) c ++ [(o, .inl (cL, 1, .inr (.inl (vp_updL g (0 : Int32).toNatClampNeg (zOut c (xs (nI (i + 1)).toNatClampNeg).toNatClampNeg (xs (nI (i + 2)).toNatClampNeg) z).toInt64))))])) H := hP.sub [9, 10, 11, 12, 13, 14, 15, 16, 0, 1, 2, 3, 4, 5, 6, 7, 8] rfl
      have hD : va_D (zA s.heap.size) (wM hm d2 cA (th) z c ++ (wX h d cA (zSg c (xs (nI (i + 1)).toNatClampNeg).toNatClampNeg (xs (nI (i + 2)).toNatClampNeg) z) c ++ [(o, .inl (cL, 1, .inr (.inl (vp_updL g (0 : Int32).toNatClampNeg (zOut c (xs (nI (i + 1)).toNatClampNeg).toNatClampNeg (xs (nI (i + 2)).toNatClampNeg) z).toInt64))))])) := hD.sub [9, 10, 11, 12, 13, 14, 15, 16, 0, 1, 2, 3, 4, 5, 6, 7, 8] (by decide) rfl
      refine va_calli (va_runV (As := [.int (xs (nI (i + 1)).toNatClampNeg), .int (xs (nI (i + 2)).toNatClampNeg)]) (rest := []) ⟨hx, hb, hml, hown, hts⟩ (c_X1_sing_v l D s.heap.size cA cL (wX h d cA (zSg c (xs (nI (i + 1)).toNatClampNeg).toNatClampNeg (xs (nI (i + 2)).toNatClampNeg) z) c ++ [(o, .inl (cL, 1, .inr (.inl (vp_updL g (0 : Int32).toNatClampNeg (zOut c (xs (nI (i + 1)).toNatClampNeg).toNatClampNeg (xs (nI (i + 2)).toNatClampNeg) z).toInt64))))]) hm d2 (th) z c (xs (nI (i + 1)).toNatClampNeg) (xs (nI (i + 2)).toNatClampNeg) hc hw hp hz) (cwV 2 hts gL_law_X1_sing rfl rfl rfl (by decide +kernel) ⟨Nat.le_of_ble_eq_true rfl, Nat.le_of_ble_eq_true rfl⟩) ⟨zPre.blind, va_recv hK hP (ci := 1) (q0 := 0) rfl rfl, zPre.call (Nat.le_refl _) hP hD hK hE hS⟩ rfl rfl hl.1 rfl (lv_room (Nat.le_of_ble_eq_true rfl)) dL_law_292 hf0) hS (fun _ _ h9 => h9) (fun _ h9 => h9) (fun r_292 _ t H locs ht hvm h_292 hB hz1 hk1 hS => ?_)
      have h_292 : r_292 = (zOut c (xs (nI (i + 1)).toNatClampNeg).toNatClampNeg (xs (nI (i + 2)).toNatClampNeg) z) := h_292
      subst h_292
      obtain ⟨hP, hD⟩ := hB
      rw [ht] at hP
      have hP : va_P D vwCl (wM hm d2 cA (0) (zSg c (xs (nI (i + 1)).toNatClampNeg).toNatClampNeg (xs (nI (i + 2)).toNatClampNeg) z) c ++ (wX h d cA (zSg c (xs (nI (i + 1)).toNatClampNeg).toNatClampNeg (xs (nI (i + 2)).toNatClampNeg) z) c ++ [(o, .inl (cL, 1, .inr (.inl (vp_updL g (0 : Int32).toNatClampNeg (zOut c (xs (nI (i + 1)).toNatClampNeg).toNatClampNeg (xs (nI (i + 2)).toNatClampNeg) z).toInt64))))])) H := hP
      have hD : va_D (zA s.heap.size) (wM hm d2 cA (0) (zSg c (xs (nI (i + 1)).toNatClampNeg).toNatClampNeg (xs (nI (i + 2)).toNatClampNeg) z) c ++ (wX h d cA (zSg c (xs (nI (i + 1)).toNatClampNeg).toNatClampNeg (xs (nI (i + 2)).toNatClampNeg) z) c ++ [(o, .inl (cL, 1, .inr (.inl (vp_updL g (0 : Int32).toNatClampNeg (zOut c (xs (nI (i + 1)).toNatClampNeg).toNatClampNeg (xs (nI (i + 2)).toNatClampNeg) z).toInt64))))])) := hD
      refine lv_istore (lv' := [(6, .int (zOut c (xs (nI (i + 1)).toNatClampNeg).toNatClampNeg (xs (nI (i + 2)).toNatClampNeg) z)), (5, .int 0), (4, .int (nI i)), (3, .ref o), (2, .ref hm), (1, .ref h), (0, .ref b)]) hx hb dL_law_295 hl (by decide) rfl (fun ls hl => ?_)
      refine lv_aload_n hx hb dL_law_297 rfl (lv_at hl 4 rfl) ?_
      refine vp_callSi ((va_runV (As := []) (rest := []) ⟨hx, hb, hml, hown, hts⟩ (c_X1_thrown l D s.heap.size cA cL (wX h d cA (zSg c (xs (nI (i + 1)).toNatClampNeg).toNatClampNeg (xs (nI (i + 2)).toNatClampNeg) z) c ++ [(o, .inl (cL, 1, .inr (.inl (vp_updL g (0 : Int32).toNatClampNeg (zOut c (xs (nI (i + 1)).toNatClampNeg).toNatClampNeg (xs (nI (i + 2)).toNatClampNeg) z).toInt64))))]) hm d2 (0) (zSg c (xs (nI (i + 1)).toNatClampNeg).toNatClampNeg (xs (nI (i + 2)).toNatClampNeg) z) c  ) (cwV 0 hts gL_law_X1_thrown rfl rfl rfl (by decide +kernel) ⟨Nat.le_of_ble_eq_true rfl, Nat.le_of_ble_eq_true rfl⟩) ⟨zPre.blind, va_recv hK hP (ci := 1) (q0 := 0) rfl rfl, zPre.call (Nat.le_refl _) hP hD hK hE hS⟩ rfl rfl hl.1 rfl (lv_room (Nat.le_of_ble_eq_true rfl)) dL_law_298 hf0).run) (fun r_298 h_298 => ?_)
      have h_298 : r_298 = 0 := h_298
      subst h_298
      refine lv_iload hx hb dL_law_301 (lv_at hl 1 rfl) ?_
      refine lv_icmp_eq (tgt := 308) hx hb dL_law_303 (by decide) (fun _ => ?_) (fun c_303 => absurd c_303 (by decide))
      refine lv_iload hx hb dL_law_308 (lv_at hl 1 rfl) ?_
      refine lv_if_ne (tgt := 325) hx hb dL_law_310 (by decide) (fun c_310 => absurd c_310 (by decide)) (fun _ => ?_)
      refine lv_aload_n hx hb dL_law_313 rfl (lv_at hl 3 rfl) ?_
      refine lv_iconst (v := 0) hx hb dL_law_314 (by decide) ?_
      have hP : va_P D vwCl (wX h d cA (zSg c (xs (nI (i + 1)).toNatClampNeg).toNatClampNeg (xs (nI (i + 2)).toNatClampNeg) z) c ++ ((o, .inl (cL, 1, .inr (.inl (vp_updL g (0 : Int32).toNatClampNeg (zOut c (xs (nI (i + 1)).toNatClampNeg).toNatClampNeg (xs (nI (i + 2)).toNatClampNeg) z).toInt64)))) :: wM hm d2 cA (0) (zSg c (xs (nI (i + 1)).toNatClampNeg).toNatClampNeg (xs (nI (i + 2)).toNatClampNeg) z) c)) H := hP.sub [8, 9, 10, 11, 12, 13, 14, 15, 16, 0, 1, 2, 3, 4, 5, 6, 7] rfl
      have hD : va_D (zA s.heap.size) (wX h d cA (zSg c (xs (nI (i + 1)).toNatClampNeg).toNatClampNeg (xs (nI (i + 2)).toNatClampNeg) z) c ++ ((o, .inl (cL, 1, .inr (.inl (vp_updL g (0 : Int32).toNatClampNeg (zOut c (xs (nI (i + 1)).toNatClampNeg).toNatClampNeg (xs (nI (i + 2)).toNatClampNeg) z).toInt64)))) :: wM hm d2 cA (0) (zSg c (xs (nI (i + 1)).toNatClampNeg).toNatClampNeg (xs (nI (i + 2)).toNatClampNeg) z) c)) := hD.sub [8, 9, 10, 11, 12, 13, 14, 15, 16, 0, 1, 2, 3, 4, 5, 6, 7] (by decide) rfl
      refine va_lald hx hb hK hP 8 1 rfl rfl (vp_in_nI (n := 0) (by decide) (by decide)) dL_law_315 ?_
      rw [show ((vp_updL g (0 : Int32).toNatClampNeg (zOut c (xs (nI (i + 1)).toNatClampNeg).toNatClampNeg (xs (nI (i + 2)).toNatClampNeg) z).toInt64) (0 : Int32).toNatClampNeg : Int64) = (zOut c (xs (nI (i + 1)).toNatClampNeg).toNatClampNeg (xs (nI (i + 2)).toNatClampNeg) z).toInt64 from pk_uLs]
      refine lv_iload hx hb dL_law_316 (lv_at hl 0 rfl) ?_
      refine lv_i2l hx hb dL_law_318 rfl ?_
      refine W.lcmp hx hb dL_law_319 ?_
      rw [show lg_cmp ((zOut c (xs (nI (i + 1)).toNatClampNeg).toNatClampNeg (xs (nI (i + 2)).toNatClampNeg) z).toInt64) ((zOut c (xs (nI (i + 1)).toNatClampNeg).toNatClampNeg (xs (nI (i + 2)).toNatClampNeg) z).toInt64) = 0 from zcmp _]
      refine lv_if_eq (tgt := 325) hx hb dL_law_320 (by decide) (fun _ => ?_) (fun c_320 => absurd c_320 (by decide))
      refine lv_goto (tgt := 1254) hx hb dL_law_325 (by decide) ?_
      refine W.widen (k := cells + 1) (n := slots + 6) (by omega) (by omega) ?_
      exact kk (zSg c (xs (nI (i + 1)).toNatClampNeg).toNatClampNeg (xs (nI (i + 2)).toNatClampNeg) z) c (0) (vp_updL g (0 : Int32).toNatClampNeg (zOut c (xs (nI (i + 1)).toNatClampNeg).toNatClampNeg (xs (nI (i + 2)).toNatClampNeg) z).toInt64) hc (zSg_ok hc hz _ hp) _ _ hP hD hS ls (lv_sub hl [2, 3, 4, 5, 6] rfl)
    · refine lv_aload_n hx hb dL_law_260 rfl (lv_at hl 3 rfl) ?_
      refine lv_aload_n hx hb dL_law_261 rfl (lv_at hl 4 rfl) ?_
      refine lv_iload hx hb dL_law_262 (lv_at hl 0 rfl) ?_
      refine lv_iconst (v := 1) hx hb dL_law_264 (by decide) ?_
      refine lv_iadd hx hb dL_law_265 ?_
      rw [show (((nI i) + 1) : Int32) = (nI (i + 1)) from (nI_add i 1)]
      refine va_sld hx hb hX hbl hbA hS (vp_in_nI (by omega) (by omega)) dL_law_266 ?_
      refine lv_aload_n hx hb dL_law_267 rfl (lv_at hl 4 rfl) ?_
      refine lv_iload hx hb dL_law_268 (lv_at hl 0 rfl) ?_
      refine lv_iconst (v := 2) hx hb dL_law_270 (by decide) ?_
      refine lv_iadd hx hb dL_law_271 ?_
      rw [show (((nI i) + 2) : Int32) = (nI (i + 2)) from (nI_add i 2)]
      refine va_sld hx hb hX hbl hbA hS (vp_in_nI (by omega) (by omega)) dL_law_272 ?_
      refine lv_aload_n hx hb dL_law_273 rfl (lv_at hl 1 rfl) ?_
      refine va_calli (vx_runSW (As := [.ref h, .int (xs (nI (i + 1)).toNatClampNeg), .int (xs (nI (i + 2)).toNatClampNeg), .ref o]) (rest := []) ⟨hx, hb, hml, hown, hts⟩ (c_L_sing_2 l hst D s.heap.size cA cL (wM hm d2 cA (th) z c) h d z c o g (xs (nI (i + 1)).toNatClampNeg) (xs (nI (i + 2)).toNatClampNeg) hw hp) (vx_cwSW 4 hts gL_law_L_sing rfl rfl rfl (by decide +kernel) ⟨Nat.le_of_ble_eq_true rfl, Nat.le_of_ble_eq_true rfl⟩) ⟨zPre.blind, zPre.call (Nat.le_refl _) hP hD hK hE hS⟩ rfl rfl hl.1 rfl (lv_room (Nat.le_of_ble_eq_true rfl)) dL_law_274 hf1) hS (fun _ _ h9 => h9) (fun _ h9 => h9) (fun r_274 _ t H locs ht hvm h_274 hB hz1 hk1 hS => ?_)
      have h_274 : r_274 = 2 := h_274
      subst h_274
      obtain ⟨hP, hD⟩ := hB
      rw [ht] at hP
      have hP : va_P D vwCl (wX h d cA z c ++ ((o, .inl (cL, 1, .inr (.inl g))) :: wM hm d2 cA (th) z c)) H := hP
      have hD : va_D (zA s.heap.size) (wX h d cA z c ++ ((o, .inl (cL, 1, .inr (.inl g))) :: wM hm d2 cA (th) z c)) := hD
      refine lv_istore (lv' := [(5, .int 2), (4, .int (nI i)), (3, .ref o), (2, .ref hm), (1, .ref h), (0, .ref b)]) hx hb dL_law_277 hl (by decide) rfl (fun ls hl => ?_)
      refine lv_aload_n hx hb dL_law_279 rfl (lv_at hl 3 rfl) ?_
      refine lv_aload_n hx hb dL_law_280 rfl (lv_at hl 5 rfl) ?_
      refine lv_iload hx hb dL_law_281 (lv_at hl 1 rfl) ?_
      refine lv_iconst (v := 1) hx hb dL_law_283 (by decide) ?_
      refine lv_iadd hx hb dL_law_284 ?_
      rw [show (((nI i) + 1) : Int32) = (nI (i + 1)) from (nI_add i 1)]
      refine va_sld hx hb hX hbl hbA hS (vp_in_nI (by omega) (by omega)) dL_law_285 ?_
      refine lv_aload_n hx hb dL_law_286 rfl (lv_at hl 5 rfl) ?_
      refine lv_iload hx hb dL_law_287 (lv_at hl 1 rfl) ?_
      refine lv_iconst (v := 2) hx hb dL_law_289 (by decide) ?_
      refine lv_iadd hx hb dL_law_290 ?_
      rw [show (((nI i) + 2) : Int32) = (nI (i + 2)) from (nI_add i 2)]
      refine va_sld hx hb hX hbl hbA hS (vp_in_nI (by omega) (by omega)) dL_law_291 ?_
      have hP : va_P D vwCl (wM hm d2 cA (th) z c ++ (wX h d cA z c ++ [(o, .inl (cL, 1, .inr (.inl g)))])) H := hP.sub [9, 10, 11, 12, 13, 14, 15, 16, 0, 1, 2, 3, 4, 5, 6, 7, 8] rfl
      have hD : va_D (zA s.heap.size) (wM hm d2 cA (th) z c ++ (wX h d cA z c ++ [(o, .inl (cL, 1, .inr (.inl g)))])) := hD.sub [9, 10, 11, 12, 13, 14, 15, 16, 0, 1, 2, 3, 4, 5, 6, 7, 8] (by decide) rfl
      refine va_calli (va_runV (As := [.int (xs (nI (i + 1)).toNatClampNeg), .int (xs (nI (i + 2)).toNatClampNeg)]) (rest := []) ⟨hx, hb, hml, hown, hts⟩ (c_X1_sing_2 l D s.heap.size cA cL (wX h d cA z c ++ [(o, .inl (cL, 1, .inr (.inl g)))]) hm d2 (th) z c (xs (nI (i + 1)).toNatClampNeg) (xs (nI (i + 2)).toNatClampNeg) hw hp) (cwV 2 hts gL_law_X1_sing rfl rfl rfl (by decide +kernel) ⟨Nat.le_of_ble_eq_true rfl, Nat.le_of_ble_eq_true rfl⟩) ⟨zPre.blind, va_recv hK hP (ci := 1) (q0 := 0) rfl rfl, zPre.call (Nat.le_refl _) hP hD hK hE hS⟩ rfl rfl hl.1 rfl (lv_room (Nat.le_of_ble_eq_true rfl)) dL_law_292 hf1) hS (fun _ _ h9 => h9) (fun _ h9 => h9) (fun r_292 _ t H locs ht hvm h_292 hB hz1 hk1 hS => ?_)
      have h_292 : r_292 = (0) := h_292
      subst h_292
      obtain ⟨hP, hD⟩ := hB
      rw [ht] at hP
      have hP : va_P D vwCl (wM hm d2 cA (2) z c ++ (wX h d cA z c ++ [(o, .inl (cL, 1, .inr (.inl g)))])) H := hP
      have hD : va_D (zA s.heap.size) (wM hm d2 cA (2) z c ++ (wX h d cA z c ++ [(o, .inl (cL, 1, .inr (.inl g)))])) := hD
      refine lv_istore (lv' := [(6, .int 0), (5, .int 2), (4, .int (nI i)), (3, .ref o), (2, .ref hm), (1, .ref h), (0, .ref b)]) hx hb dL_law_295 hl (by decide) rfl (fun ls hl => ?_)
      refine lv_aload_n hx hb dL_law_297 rfl (lv_at hl 4 rfl) ?_
      refine vp_callSi ((va_runV (As := []) (rest := []) ⟨hx, hb, hml, hown, hts⟩ (c_X1_thrown l D s.heap.size cA cL (wX h d cA z c ++ [(o, .inl (cL, 1, .inr (.inl g)))]) hm d2 (2) z c  ) (cwV 0 hts gL_law_X1_thrown rfl rfl rfl (by decide +kernel) ⟨Nat.le_of_ble_eq_true rfl, Nat.le_of_ble_eq_true rfl⟩) ⟨zPre.blind, va_recv hK hP (ci := 1) (q0 := 0) rfl rfl, zPre.call (Nat.le_refl _) hP hD hK hE hS⟩ rfl rfl hl.1 rfl (lv_room (Nat.le_of_ble_eq_true rfl)) dL_law_298 hf1).run) (fun r_298 h_298 => ?_)
      have h_298 : r_298 = 2 := h_298
      subst h_298
      refine lv_iload hx hb dL_law_301 (lv_at hl 1 rfl) ?_
      refine lv_icmp_eq (tgt := 308) hx hb dL_law_303 (by decide) (fun _ => ?_) (fun c_303 => absurd c_303 (by decide))
      refine lv_iload hx hb dL_law_308 (lv_at hl 1 rfl) ?_
      refine lv_if_ne (tgt := 325) hx hb dL_law_310 (by decide) (fun _ => ?_) (fun c_310 => absurd c_310 (by decide))
      refine lv_goto (tgt := 1254) hx hb dL_law_325 (by decide) ?_
      have hP : va_P D vwCl (wX h d cA z c ++ ((o, .inl (cL, 1, .inr (.inl g))) :: wM hm d2 cA (2) z c)) H := hP.sub [8, 9, 10, 11, 12, 13, 14, 15, 16, 0, 1, 2, 3, 4, 5, 6, 7] rfl
      have hD : va_D (zA s.heap.size) (wX h d cA z c ++ ((o, .inl (cL, 1, .inr (.inl g))) :: wM hm d2 cA (2) z c)) := hD.sub [8, 9, 10, 11, 12, 13, 14, 15, 16, 0, 1, 2, 3, 4, 5, 6, 7] (by decide) rfl
      refine W.widen (k := cells + 1) (n := slots + 6) (by omega) (by omega) ?_
      exact kk z c (2) g hc hz _ _ hP hD hS ls (lv_sub hl [2, 3, 4, 5, 6] rfl)
  · refine lv_aload_n hx hb dL_law_260 rfl (lv_at hl 3 rfl) ?_
    refine lv_aload_n hx hb dL_law_261 rfl (lv_at hl 4 rfl) ?_
    refine lv_iload hx hb dL_law_262 (lv_at hl 0 rfl) ?_
    refine lv_iconst (v := 1) hx hb dL_law_264 (by decide) ?_
    refine lv_iadd hx hb dL_law_265 ?_
    rw [show (((nI i) + 1) : Int32) = (nI (i + 1)) from (nI_add i 1)]
    refine va_sld hx hb hX hbl hbA hS (vp_in_nI (by omega) (by omega)) dL_law_266 ?_
    refine lv_aload_n hx hb dL_law_267 rfl (lv_at hl 4 rfl) ?_
    refine lv_iload hx hb dL_law_268 (lv_at hl 0 rfl) ?_
    refine lv_iconst (v := 2) hx hb dL_law_270 (by decide) ?_
    refine lv_iadd hx hb dL_law_271 ?_
    rw [show (((nI i) + 2) : Int32) = (nI (i + 2)) from (nI_add i 2)]
    refine va_sld hx hb hX hbl hbA hS (vp_in_nI (by omega) (by omega)) dL_law_272 ?_
    refine lv_aload_n hx hb dL_law_273 rfl (lv_at hl 1 rfl) ?_
    refine va_calli (vx_runSW (As := [.ref h, .int (xs (nI (i + 1)).toNatClampNeg), .int (xs (nI (i + 2)).toNatClampNeg), .ref o]) (rest := []) ⟨hx, hb, hml, hown, hts⟩ (c_L_sing_1 l hst D s.heap.size cA cL (wM hm d2 cA (th) z c) h d z c o g (xs (nI (i + 1)).toNatClampNeg) (xs (nI (i + 2)).toNatClampNeg) hw) (vx_cwSW 4 hts gL_law_L_sing rfl rfl rfl (by decide +kernel) ⟨Nat.le_of_ble_eq_true rfl, Nat.le_of_ble_eq_true rfl⟩) ⟨zPre.blind, zPre.call (Nat.le_refl _) hP hD hK hE hS⟩ rfl rfl hl.1 rfl (lv_room (Nat.le_of_ble_eq_true rfl)) dL_law_274 hf1) hS (fun _ _ h9 => h9) (fun _ h9 => h9) (fun r_274 _ t H locs ht hvm h_274 hB hz1 hk1 hS => ?_)
    have h_274 : r_274 = 1 := h_274
    subst h_274
    obtain ⟨hP, hD⟩ := hB
    rw [ht] at hP
    have hP : va_P D vwCl (wX h d cA z c ++ ((o, .inl (cL, 1, .inr (.inl g))) :: wM hm d2 cA (th) z c)) H := hP
    have hD : va_D (zA s.heap.size) (wX h d cA z c ++ ((o, .inl (cL, 1, .inr (.inl g))) :: wM hm d2 cA (th) z c)) := hD
    refine lv_istore (lv' := [(5, .int 1), (4, .int (nI i)), (3, .ref o), (2, .ref hm), (1, .ref h), (0, .ref b)]) hx hb dL_law_277 hl (by decide) rfl (fun ls hl => ?_)
    refine lv_aload_n hx hb dL_law_279 rfl (lv_at hl 3 rfl) ?_
    refine lv_aload_n hx hb dL_law_280 rfl (lv_at hl 5 rfl) ?_
    refine lv_iload hx hb dL_law_281 (lv_at hl 1 rfl) ?_
    refine lv_iconst (v := 1) hx hb dL_law_283 (by decide) ?_
    refine lv_iadd hx hb dL_law_284 ?_
    rw [show (((nI i) + 1) : Int32) = (nI (i + 1)) from (nI_add i 1)]
    refine va_sld hx hb hX hbl hbA hS (vp_in_nI (by omega) (by omega)) dL_law_285 ?_
    refine lv_aload_n hx hb dL_law_286 rfl (lv_at hl 5 rfl) ?_
    refine lv_iload hx hb dL_law_287 (lv_at hl 1 rfl) ?_
    refine lv_iconst (v := 2) hx hb dL_law_289 (by decide) ?_
    refine lv_iadd hx hb dL_law_290 ?_
    rw [show (((nI i) + 2) : Int32) = (nI (i + 2)) from (nI_add i 2)]
    refine va_sld hx hb hX hbl hbA hS (vp_in_nI (by omega) (by omega)) dL_law_291 ?_
    have hP : va_P D vwCl (wM hm d2 cA (th) z c ++ (wX h d cA z c ++ [(o, .inl (cL, 1, .inr (.inl g)))])) H := hP.sub [9, 10, 11, 12, 13, 14, 15, 16, 0, 1, 2, 3, 4, 5, 6, 7, 8] rfl
    have hD : va_D (zA s.heap.size) (wM hm d2 cA (th) z c ++ (wX h d cA z c ++ [(o, .inl (cL, 1, .inr (.inl g)))])) := hD.sub [9, 10, 11, 12, 13, 14, 15, 16, 0, 1, 2, 3, 4, 5, 6, 7, 8] (by decide) rfl
    refine va_calli (va_runV (As := [.int (xs (nI (i + 1)).toNatClampNeg), .int (xs (nI (i + 2)).toNatClampNeg)]) (rest := []) ⟨hx, hb, hml, hown, hts⟩ (c_X1_sing_1 l D s.heap.size cA cL (wX h d cA z c ++ [(o, .inl (cL, 1, .inr (.inl g)))]) hm d2 (th) z c (xs (nI (i + 1)).toNatClampNeg) (xs (nI (i + 2)).toNatClampNeg) hw) (cwV 2 hts gL_law_X1_sing rfl rfl rfl (by decide +kernel) ⟨Nat.le_of_ble_eq_true rfl, Nat.le_of_ble_eq_true rfl⟩) ⟨zPre.blind, va_recv hK hP (ci := 1) (q0 := 0) rfl rfl, zPre.call (Nat.le_refl _) hP hD hK hE hS⟩ rfl rfl hl.1 rfl (lv_room (Nat.le_of_ble_eq_true rfl)) dL_law_292 hf1) hS (fun _ _ h9 => h9) (fun _ h9 => h9) (fun r_292 _ t H locs ht hvm h_292 hB hz1 hk1 hS => ?_)
    have h_292 : r_292 = (0) := h_292
    subst h_292
    obtain ⟨hP, hD⟩ := hB
    rw [ht] at hP
    have hP : va_P D vwCl (wM hm d2 cA (1) z c ++ (wX h d cA z c ++ [(o, .inl (cL, 1, .inr (.inl g)))])) H := hP
    have hD : va_D (zA s.heap.size) (wM hm d2 cA (1) z c ++ (wX h d cA z c ++ [(o, .inl (cL, 1, .inr (.inl g)))])) := hD
    refine lv_istore (lv' := [(6, .int 0), (5, .int 1), (4, .int (nI i)), (3, .ref o), (2, .ref hm), (1, .ref h), (0, .ref b)]) hx hb dL_law_295 hl (by decide) rfl (fun ls hl => ?_)
    refine lv_aload_n hx hb dL_law_297 rfl (lv_at hl 4 rfl) ?_
    refine vp_callSi ((va_runV (As := []) (rest := []) ⟨hx, hb, hml, hown, hts⟩ (c_X1_thrown l D s.heap.size cA cL (wX h d cA z c ++ [(o, .inl (cL, 1, .inr (.inl g)))]) hm d2 (1) z c  ) (cwV 0 hts gL_law_X1_thrown rfl rfl rfl (by decide +kernel) ⟨Nat.le_of_ble_eq_true rfl, Nat.le_of_ble_eq_true rfl⟩) ⟨zPre.blind, va_recv hK hP (ci := 1) (q0 := 0) rfl rfl, zPre.call (Nat.le_refl _) hP hD hK hE hS⟩ rfl rfl hl.1 rfl (lv_room (Nat.le_of_ble_eq_true rfl)) dL_law_298 hf1).run) (fun r_298 h_298 => ?_)
    have h_298 : r_298 = 1 := h_298
    subst h_298
    refine lv_iload hx hb dL_law_301 (lv_at hl 1 rfl) ?_
    refine lv_icmp_eq (tgt := 308) hx hb dL_law_303 (by decide) (fun _ => ?_) (fun c_303 => absurd c_303 (by decide))
    refine lv_iload hx hb dL_law_308 (lv_at hl 1 rfl) ?_
    refine lv_if_ne (tgt := 325) hx hb dL_law_310 (by decide) (fun _ => ?_) (fun c_310 => absurd c_310 (by decide))
    refine lv_goto (tgt := 1254) hx hb dL_law_325 (by decide) ?_
    have hP : va_P D vwCl (wX h d cA z c ++ ((o, .inl (cL, 1, .inr (.inl g))) :: wM hm d2 cA (1) z c)) H := hP.sub [8, 9, 10, 11, 12, 13, 14, 15, 16, 0, 1, 2, 3, 4, 5, 6, 7] rfl
    have hD : va_D (zA s.heap.size) (wX h d cA z c ++ ((o, .inl (cL, 1, .inr (.inl g))) :: wM hm d2 cA (1) z c)) := hD.sub [8, 9, 10, 11, 12, 13, 14, 15, 16, 0, 1, 2, 3, 4, 5, 6, 7] (by decide) rfl
    refine W.widen (k := cells + 1) (n := slots + 6) (by omega) (by omega) ?_
    exact kk z c (1) g hc hz _ _ hP hD hS ls (lv_sub hl [2, 3, 4, 5, 6] rfl)

set_option maxHeartbeats 8000000 in
set_option maxRecDepth 100000 in
theorem law_3 {p : Program} {l : Launch} {e : Env} {s : State} {m : MethodId} {below : List Frame} {meth : Method} {cd : Code} {b L : Nat} {xs : Nat → Int32} {D : va_G} {cA cL : ClassId} (C9 : zC9 p l s m meth cd b L xs D cA cL) {h hm o : Nat} {d d2 : Nat → Nat} {z : S7} {c : C5} {th : Int32} {g : Nat → Int64} (hc : okC c) (hz : okZ z) {i : Nat} (hi : i + 5 ≤ L) {cells slots : Nat} (hce : cells + 1 ≤ 1045) (hsl : slots + 6 ≤ 8314) (kk : zKK p l e s m below meth cd b D cA cL h hm o d d2 i cells slots) {H : Heap} {locs : List Loc} (hP : va_P D vwCl (zLW h d hm d2 o cA cL z c th g) H) (hD : va_D (zA s.heap.size) (zLW h d hm d2 o cA cL z c th g)) (hS : va_S (zA s.heap.size) s.heap H locs) {ls : Array Slot} (hl : lv_has ls 7 [(4, .int (nI i)), (3, .ref o), (2, .ref hm), (1, .ref h), (0, .ref b)]) : W p l e room_1 s m #[Value.ref b] below meth cd H locs cells slots (lw_Z below #[Value.ref b] s) (F0 m 328 ls []) := by
  obtain ⟨hst, hx, hb, hml, hown, hts, hX, hbl, hK, hE, hL⟩ := C9
  have hbA : ¬ zA s.heap.size b := Nat.not_le.mpr hbl
  have hf0 : cells + 0 ≤ room_1.cells ∧ slots + 0 ≤ room_1.slots := ⟨by show cells + 0 ≤ 1045; omega, by show slots + 0 ≤ 8314; omega⟩
  have hf1 : cells + 1 ≤ room_1.cells ∧ slots + 6 ≤ room_1.slots := ⟨hce, hsl⟩
  by_cases hw : zw (xs (nI (i + 1)).toNatClampNeg)
  · by_cases hq : zp (xs (nI (i + 2)).toNatClampNeg) ∧ zp (xs (nI (i + 3)).toNatClampNeg) ∧ (2 ≤ (xs (nI (i + 4)).toNatClampNeg) ∧ (xs (nI (i + 4)).toNatClampNeg) ≤ 50)
    · have hq4 : 0 ≤ (xs (nI (i + 4)).toNatClampNeg) ∧ (xs (nI (i + 4)).toNatClampNeg) ≤ 50 := ⟨Int32.le_trans (by decide) hq.2.2.1, hq.2.2.2⟩
      obtain ⟨k4, hk4, e4⟩ := nI_of2 (n := 50) (M := 50) rfl (Int32.not_lt.mpr hq4.1) hq4.2
      have hf : 2 ≤ k4 := (nI_leI (a := 2) (by decide) (by omega)).mp (by rw [← e4]; exact hq.2.2.1)
      refine lv_aload_n hx hb dL_law_328 rfl (lv_at hl 3 rfl) ?_
      refine lv_aload_n hx hb dL_law_329 rfl (lv_at hl 4 rfl) ?_
      refine lv_iload hx hb dL_law_330 (lv_at hl 0 rfl) ?_
      refine lv_iconst (v := 1) hx hb dL_law_332 (by decide) ?_
      refine lv_iadd hx hb dL_law_333 ?_
      rw [show (((nI i) + 1) : Int32) = (nI (i + 1)) from (nI_add i 1)]
      refine va_sld hx hb hX hbl hbA hS (vp_in_nI (by omega) (by omega)) dL_law_334 ?_
      refine lv_aload_n hx hb dL_law_335 rfl (lv_at hl 4 rfl) ?_
      refine lv_iload hx hb dL_law_336 (lv_at hl 0 rfl) ?_
      refine lv_iconst (v := 2) hx hb dL_law_338 (by decide) ?_
      refine lv_iadd hx hb dL_law_339 ?_
      rw [show (((nI i) + 2) : Int32) = (nI (i + 2)) from (nI_add i 2)]
      refine va_sld hx hb hX hbl hbA hS (vp_in_nI (by omega) (by omega)) dL_law_340 ?_
      refine lv_aload_n hx hb dL_law_341 rfl (lv_at hl 4 rfl) ?_
      refine lv_iload hx hb dL_law_342 (lv_at hl 0 rfl) ?_
      refine lv_iconst (v := 3) hx hb dL_law_344 (by decide) ?_
      refine lv_iadd hx hb dL_law_345 ?_
      rw [show (((nI i) + 3) : Int32) = (nI (i + 3)) from (nI_add i 3)]
      refine va_sld hx hb hX hbl hbA hS (vp_in_nI (by omega) (by omega)) dL_law_346 ?_
      refine lv_aload_n hx hb dL_law_347 rfl (lv_at hl 4 rfl) ?_
      refine lv_iload hx hb dL_law_348 (lv_at hl 0 rfl) ?_
      refine lv_iconst (v := 4) hx hb dL_law_350 (by decide) ?_
      refine lv_iadd hx hb dL_law_351 ?_
      rw [show (((nI i) + 4) : Int32) = (nI (i + 4)) from (nI_add i 4)]
      refine va_sld hx hb hX hbl hbA hS (vp_in_nI (by omega) (by omega)) dL_law_352 ?_
      rw [show ((xs (nI (i + 4)).toNatClampNeg) : Int32) = (nI k4) from e4]
      refine lv_aload_n hx hb dL_law_353 rfl (lv_at hl 1 rfl) ?_
      refine va_calli (vx_runSW (As := [.ref h, .int (xs (nI (i + 1)).toNatClampNeg), .int (xs (nI (i + 2)).toNatClampNeg), .int (xs (nI (i + 3)).toNatClampNeg), .int (nI k4), .ref o]) (rest := []) ⟨hx, hb, hml, hown, hts⟩ (c_L_slide_v l D s.heap.size cA cL (wM hm d2 cA (th) z c) h d z c o g (xs (nI (i + 1)).toNatClampNeg) (xs (nI (i + 2)).toNatClampNeg) (xs (nI (i + 3)).toNatClampNeg) k4 hc hw hq.1 hq.2.1 hf hk4) (vx_cwSW 6 hts gL_law_L_slide rfl rfl rfl (by decide +kernel) ⟨Nat.le_of_ble_eq_true rfl, Nat.le_of_ble_eq_true rfl⟩) ⟨zPre.blind, zPre.call (Nat.le_refl _) hP hD hK hE hS⟩ rfl rfl hl.1 rfl (lv_room (Nat.le_of_ble_eq_true rfl)) dL_law_354 hf0) hS (fun _ _ h9 => h9) (fun _ h9 => h9) (fun r_354 _ t H locs ht hvm h_354 hB hz1 hk1 hS => ?_)
      have h_354 : r_354 = 0 := h_354
      subst h_354
      obtain ⟨hP, hD⟩ := hB
      rw [ht] at hP
      have hP : va_P D vwCl (wX h d cA (zSl c (xs (nI (i + 1)).toNatClampNeg).toNatClampNeg (xs (nI (i + 2)).toNatClampNeg) (xs (nI (i + 3)).toNatClampNeg) k4 z k4) c ++ ((o, .inl (cL, 1, .inr (.inl (vp_updL g (0 : Int32).toNatClampNeg ((zSl c (xs (nI (i + 1)).toNatClampNeg).toNatClampNeg (xs (nI (i + 2)).toNatClampNeg) (xs (nI (i + 3)).toNatClampNeg) k4 z k4).2.2.2.1 (xs (nI (i + 1)).toNatClampNeg).toNatClampNeg - z.2.2.2.1 (xs (nI (i + 1)).toNatClampNeg).toNatClampNeg).toInt64)))) :: wM hm d2 cA (th) z c)) H := hP
      have hD : va_D (zA s.heap.size) (wX h d cA (zSl c (xs (nI (i + 1)).toNatClampNeg).toNatClampNeg (xs (nI (i + 2)).toNatClampNeg) (xs (nI (i + 3)).toNatClampNeg) k4 z k4) c ++ ((o, .inl (cL, 1, .inr (.inl (vp_updL g (0 : Int32).toNatClampNeg ((zSl c (xs (nI (i + 1)).toNatClampNeg).toNatClampNeg (xs (nI (i + 2)).toNatClampNeg) (xs (nI (i + 3)).toNatClampNeg) k4 z k4).2.2.2.1 (xs (nI (i + 1)).toNatClampNeg).toNatClampNeg - z.2.2.2.1 (xs (nI (i + 1)).toNatClampNeg).toNatClampNeg).toInt64)))) :: wM hm d2 cA (th) z c)) := hD
      refine lv_istore (lv' := [(5, .int 0), (4, .int (nI i)), (3, .ref o), (2, .ref hm), (1, .ref h), (0, .ref b)]) hx hb dL_law_357 hl (by decide) rfl (fun ls hl => ?_)
      refine lv_aload_n hx hb dL_law_359 rfl (lv_at hl 3 rfl) ?_
      refine lv_aload_n hx hb dL_law_360 rfl (lv_at hl 5 rfl) ?_
      refine lv_iload hx hb dL_law_361 (lv_at hl 1 rfl) ?_
      refine lv_iconst (v := 1) hx hb dL_law_363 (by decide) ?_
      refine lv_iadd hx hb dL_law_364 ?_
      rw [show (((nI i) + 1) : Int32) = (nI (i + 1)) from (nI_add i 1)]
      refine va_sld hx hb hX hbl hbA hS (vp_in_nI (by omega) (by omega)) dL_law_365 ?_
      refine lv_aload_n hx hb dL_law_366 rfl (lv_at hl 5 rfl) ?_
      refine lv_iload hx hb dL_law_367 (lv_at hl 1 rfl) ?_
      refine lv_iconst (v := 2) hx hb dL_law_369 (by decide) ?_
      refine lv_iadd hx hb dL_law_370 ?_
      rw [show (((nI i) + 2) : Int32) = (nI (i + 2)) from (nI_add i 2)]
      refine va_sld hx hb hX hbl hbA hS (vp_in_nI (by omega) (by omega)) dL_law_371 ?_
      refine lv_aload_n hx hb dL_law_372 rfl (lv_at hl 5 rfl) ?_
      refine lv_iload hx hb dL_law_373 (lv_at hl 1 rfl) ?_
      refine lv_iconst (v := 3) hx hb dL_law_375 (by decide) ?_
      refine lv_iadd hx hb dL_law_376 ?_
      rw [show (((nI i) + 3) : Int32) = (nI (i + 3)) from (nI_add i 3)]
      refine va_sld hx hb hX hbl hbA hS (vp_in_nI (by omega) (by omega)) dL_law_377 ?_
      refine lv_aload_n hx hb dL_law_378 rfl (lv_at hl 5 rfl) ?_
      refine lv_iload hx hb dL_law_379 (lv_at hl 1 rfl) ?_
      refine lv_iconst (v := 4) hx hb dL_law_381 (by decide) ?_
      refine lv_iadd hx hb dL_law_382 ?_
      rw [show (((nI i) + 4) : Int32) = (nI (i + 4)) from (nI_add i 4)]
      refine va_sld hx hb hX hbl hbA hS (vp_in_nI (by omega) (by omega)) dL_law_383 ?_
      rw [show ((xs (nI (i + 4)).toNatClampNeg) : Int32) = (nI k4) from e4]
      have hP : va_P D vwCl (wM hm d2 cA (th) z c ++ (wX h d cA (zSl c (xs (nI (i + 1)).toNatClampNeg).toNatClampNeg (xs (nI (i + 2)).toNatClampNeg) (xs (nI (i + 3)).toNatClampNeg) k4 z k4) c ++ [(o, .inl (cL, 1, .inr (.inl (vp_updL g (0 : Int32).toNatClampNeg ((zSl c (xs (nI (i + 1)).toNatClampNeg).toNatClampNeg (xs (nI (i + 2)).toNatClampNeg) (xs (nI (i + 3)).toNatClampNeg) k4 z k4).2.2.2.1 (xs (nI (i + 1)).toNatClampNeg).toNatClampNeg - z.2.2.2.1 (xs (nI (i + 1)).toNatClampNeg).toNatClampNeg).toInt64))))])) H := hP.sub [9, 10, 11, 12, 13, 14, 15, 16, 0, 1, 2, 3, 4, 5, 6, 7, 8] rfl
      have hD : va_D (zA s.heap.size) (wM hm d2 cA (th) z c ++ (wX h d cA (zSl c (xs (nI (i + 1)).toNatClampNeg).toNatClampNeg (xs (nI (i + 2)).toNatClampNeg) (xs (nI (i + 3)).toNatClampNeg) k4 z k4) c ++ [(o, .inl (cL, 1, .inr (.inl (vp_updL g (0 : Int32).toNatClampNeg ((zSl c (xs (nI (i + 1)).toNatClampNeg).toNatClampNeg (xs (nI (i + 2)).toNatClampNeg) (xs (nI (i + 3)).toNatClampNeg) k4 z k4).2.2.2.1 (xs (nI (i + 1)).toNatClampNeg).toNatClampNeg - z.2.2.2.1 (xs (nI (i + 1)).toNatClampNeg).toNatClampNeg).toInt64))))])) := hD.sub [9, 10, 11, 12, 13, 14, 15, 16, 0, 1, 2, 3, 4, 5, 6, 7, 8] (by decide) rfl
      refine va_calli (va_runV (As := [.int (xs (nI (i + 1)).toNatClampNeg), .int (xs (nI (i + 2)).toNatClampNeg), .int (xs (nI (i + 3)).toNatClampNeg), .int (nI k4)]) (rest := []) ⟨hx, hb, hml, hown, hts⟩ (c_X1_slide_v l D s.heap.size cA cL (wX h d cA (zSl c (xs (nI (i + 1)).toNatClampNeg).toNatClampNeg (xs (nI (i + 2)).toNatClampNeg) (xs (nI (i + 3)).toNatClampNeg) k4 z k4) c ++ [(o, .inl (cL, 1, .inr (.inl (vp_updL g (0 : Int32).toNatClampNeg ((zSl c (xs (nI (i + 1)).toNatClampNeg).toNatClampNeg (xs (nI (i + 2)).toNatClampNeg) (xs (nI (i + 3)).toNatClampNeg) k4 z k4).2.2.2.1 (xs (nI (i + 1)).toNatClampNeg).toNatClampNeg - z.2.2.2.1 (xs (nI (i + 1)).toNatClampNeg).toNatClampNeg).toInt64))))]) hm d2 (th) z c (xs (nI (i + 1)).toNatClampNeg) (xs (nI (i + 2)).toNatClampNeg) (xs (nI (i + 3)).toNatClampNeg) k4 hc hw hq.1 hq.2.1 hf hk4 hz) (cwV 4 hts gL_law_X1_slide rfl rfl rfl (by decide +kernel) ⟨Nat.le_of_ble_eq_true rfl, Nat.le_of_ble_eq_true rfl⟩) ⟨zPre.blind, va_recv hK hP (ci := 1) (q0 := 0) rfl rfl, zPre.call (Nat.le_refl _) hP hD hK hE hS⟩ rfl rfl hl.1 rfl (lv_room (Nat.le_of_ble_eq_true rfl)) dL_law_384 hf0) hS (fun _ _ h9 => h9) (fun _ h9 => h9) (fun r_384 _ t H locs ht hvm h_384 hB hz1 hk1 hS => ?_)
      have h_384 : r_384 = ((zSl c (xs (nI (i + 1)).toNatClampNeg).toNatClampNeg (xs (nI (i + 2)).toNatClampNeg) (xs (nI (i + 3)).toNatClampNeg) k4 z k4).2.2.2.1 (xs (nI (i + 1)).toNatClampNeg).toNatClampNeg - z.2.2.2.1 (xs (nI (i + 1)).toNatClampNeg).toNatClampNeg) := h_384
      subst h_384
      obtain ⟨hP, hD⟩ := hB
      rw [ht] at hP
      have hP : va_P D vwCl (wM hm d2 cA (0) (zSl c (xs (nI (i + 1)).toNatClampNeg).toNatClampNeg (xs (nI (i + 2)).toNatClampNeg) (xs (nI (i + 3)).toNatClampNeg) k4 z k4) c ++ (wX h d cA (zSl c (xs (nI (i + 1)).toNatClampNeg).toNatClampNeg (xs (nI (i + 2)).toNatClampNeg) (xs (nI (i + 3)).toNatClampNeg) k4 z k4) c ++ [(o, .inl (cL, 1, .inr (.inl (vp_updL g (0 : Int32).toNatClampNeg ((zSl c (xs (nI (i + 1)).toNatClampNeg).toNatClampNeg (xs (nI (i + 2)).toNatClampNeg) (xs (nI (i + 3)).toNatClampNeg) k4 z k4).2.2.2.1 (xs (nI (i + 1)).toNatClampNeg).toNatClampNeg - z.2.2.2.1 (xs (nI (i + 1)).toNatClampNeg).toNatClampNeg).toInt64))))])) H := hP
      have hD : va_D (zA s.heap.size) (wM hm d2 cA (0) (zSl c (xs (nI (i + 1)).toNatClampNeg).toNatClampNeg (xs (nI (i + 2)).toNatClampNeg) (xs (nI (i + 3)).toNatClampNeg) k4 z k4) c ++ (wX h d cA (zSl c (xs (nI (i + 1)).toNatClampNeg).toNatClampNeg (xs (nI (i + 2)).toNatClampNeg) (xs (nI (i + 3)).toNatClampNeg) k4 z k4) c ++ [(o, .inl (cL, 1, .inr (.inl (vp_updL g (0 : Int32).toNatClampNeg ((zSl c (xs (nI (i + 1)).toNatClampNeg).toNatClampNeg (xs (nI (i + 2)).toNatClampNeg) (xs (nI (i + 3)).toNatClampNeg) k4 z k4).2.2.2.1 (xs (nI (i + 1)).toNatClampNeg).toNatClampNeg - z.2.2.2.1 (xs (nI (i + 1)).toNatClampNeg).toNatClampNeg).toInt64))))])) := hD
      refine lv_istore (lv' := [(6, .int ((zSl c (xs (nI (i + 1)).toNatClampNeg).toNatClampNeg (xs (nI (i + 2)).toNatClampNeg) (xs (nI (i + 3)).toNatClampNeg) k4 z k4).2.2.2.1 (xs (nI (i + 1)).toNatClampNeg).toNatClampNeg - z.2.2.2.1 (xs (nI (i + 1)).toNatClampNeg).toNatClampNeg)), (5, .int 0), (4, .int (nI i)), (3, .ref o), (2, .ref hm), (1, .ref h), (0, .ref b)]) hx hb dL_law_387 hl (by decide) rfl (fun ls hl => ?_)
      refine lv_aload_n hx hb dL_law_389 rfl (lv_at hl 4 rfl) ?_
      refine vp_callSi ((va_runV (As := []) (rest := []) ⟨hx, hb, hml, hown, hts⟩ (c_X1_thrown l D s.heap.size cA cL (wX h d cA (zSl c (xs (nI (i + 1)).toNatClampNeg).toNatClampNeg (xs (nI (i + 2)).toNatClampNeg) (xs (nI (i + 3)).toNatClampNeg) k4 z k4) c ++ [(o, .inl (cL, 1, .inr (.inl (vp_updL g (0 : Int32).toNatClampNeg ((zSl c (xs (nI (i + 1)).toNatClampNeg).toNatClampNeg (xs (nI (i + 2)).toNatClampNeg) (xs (nI (i + 3)).toNatClampNeg) k4 z k4).2.2.2.1 (xs (nI (i + 1)).toNatClampNeg).toNatClampNeg - z.2.2.2.1 (xs (nI (i + 1)).toNatClampNeg).toNatClampNeg).toInt64))))]) hm d2 (0) (zSl c (xs (nI (i + 1)).toNatClampNeg).toNatClampNeg (xs (nI (i + 2)).toNatClampNeg) (xs (nI (i + 3)).toNatClampNeg) k4 z k4) c  ) (cwV 0 hts gL_law_X1_thrown rfl rfl rfl (by decide +kernel) ⟨Nat.le_of_ble_eq_true rfl, Nat.le_of_ble_eq_true rfl⟩) ⟨zPre.blind, va_recv hK hP (ci := 1) (q0 := 0) rfl rfl, zPre.call (Nat.le_refl _) hP hD hK hE hS⟩ rfl rfl hl.1 rfl (lv_room (Nat.le_of_ble_eq_true rfl)) dL_law_390 hf0).run) (fun r_390 h_390 => ?_)
      have h_390 : r_390 = 0 := h_390
      subst h_390
      refine lv_iload hx hb dL_law_393 (lv_at hl 1 rfl) ?_
      refine lv_icmp_eq (tgt := 400) hx hb dL_law_395 (by decide) (fun _ => ?_) (fun c_395 => absurd c_395 (by decide))
      refine lv_iload hx hb dL_law_400 (lv_at hl 1 rfl) ?_
      refine lv_if_ne (tgt := 417) hx hb dL_law_402 (by decide) (fun c_402 => absurd c_402 (by decide)) (fun _ => ?_)
      refine lv_aload_n hx hb dL_law_405 rfl (lv_at hl 3 rfl) ?_
      refine lv_iconst (v := 0) hx hb dL_law_406 (by decide) ?_
      have hP : va_P D vwCl (wX h d cA (zSl c (xs (nI (i + 1)).toNatClampNeg).toNatClampNeg (xs (nI (i + 2)).toNatClampNeg) (xs (nI (i + 3)).toNatClampNeg) k4 z k4) c ++ ((o, .inl (cL, 1, .inr (.inl (vp_updL g (0 : Int32).toNatClampNeg ((zSl c (xs (nI (i + 1)).toNatClampNeg).toNatClampNeg (xs (nI (i + 2)).toNatClampNeg) (xs (nI (i + 3)).toNatClampNeg) k4 z k4).2.2.2.1 (xs (nI (i + 1)).toNatClampNeg).toNatClampNeg - z.2.2.2.1 (xs (nI (i + 1)).toNatClampNeg).toNatClampNeg).toInt64)))) :: wM hm d2 cA (0) (zSl c (xs (nI (i + 1)).toNatClampNeg).toNatClampNeg (xs (nI (i + 2)).toNatClampNeg) (xs (nI (i + 3)).toNatClampNeg) k4 z k4) c)) H := hP.sub [8, 9, 10, 11, 12, 13, 14, 15, 16, 0, 1, 2, 3, 4, 5, 6, 7] rfl
      have hD : va_D (zA s.heap.size) (wX h d cA (zSl c (xs (nI (i + 1)).toNatClampNeg).toNatClampNeg (xs (nI (i + 2)).toNatClampNeg) (xs (nI (i + 3)).toNatClampNeg) k4 z k4) c ++ ((o, .inl (cL, 1, .inr (.inl (vp_updL g (0 : Int32).toNatClampNeg ((zSl c (xs (nI (i + 1)).toNatClampNeg).toNatClampNeg (xs (nI (i + 2)).toNatClampNeg) (xs (nI (i + 3)).toNatClampNeg) k4 z k4).2.2.2.1 (xs (nI (i + 1)).toNatClampNeg).toNatClampNeg - z.2.2.2.1 (xs (nI (i + 1)).toNatClampNeg).toNatClampNeg).toInt64)))) :: wM hm d2 cA (0) (zSl c (xs (nI (i + 1)).toNatClampNeg).toNatClampNeg (xs (nI (i + 2)).toNatClampNeg) (xs (nI (i + 3)).toNatClampNeg) k4 z k4) c)) := hD.sub [8, 9, 10, 11, 12, 13, 14, 15, 16, 0, 1, 2, 3, 4, 5, 6, 7] (by decide) rfl
      refine va_lald hx hb hK hP 8 1 rfl rfl (vp_in_nI (n := 0) (by decide) (by decide)) dL_law_407 ?_
      rw [show ((vp_updL g (0 : Int32).toNatClampNeg ((zSl c (xs (nI (i + 1)).toNatClampNeg).toNatClampNeg (xs (nI (i + 2)).toNatClampNeg) (xs (nI (i + 3)).toNatClampNeg) k4 z k4).2.2.2.1 (xs (nI (i + 1)).toNatClampNeg).toNatClampNeg - z.2.2.2.1 (xs (nI (i + 1)).toNatClampNeg).toNatClampNeg).toInt64) (0 : Int32).toNatClampNeg : Int64) = ((zSl c (xs (nI (i + 1)).toNatClampNeg).toNatClampNeg (xs (nI (i + 2)).toNatClampNeg) (xs (nI (i + 3)).toNatClampNeg) k4 z k4).2.2.2.1 (xs (nI (i + 1)).toNatClampNeg).toNatClampNeg - z.2.2.2.1 (xs (nI (i + 1)).toNatClampNeg).toNatClampNeg).toInt64 from pk_uLs]
      refine lv_iload hx hb dL_law_408 (lv_at hl 0 rfl) ?_
      refine lv_i2l hx hb dL_law_410 rfl ?_
      refine W.lcmp hx hb dL_law_411 ?_
      rw [show lg_cmp (((zSl c (xs (nI (i + 1)).toNatClampNeg).toNatClampNeg (xs (nI (i + 2)).toNatClampNeg) (xs (nI (i + 3)).toNatClampNeg) k4 z k4).2.2.2.1 (xs (nI (i + 1)).toNatClampNeg).toNatClampNeg - z.2.2.2.1 (xs (nI (i + 1)).toNatClampNeg).toNatClampNeg).toInt64) (((zSl c (xs (nI (i + 1)).toNatClampNeg).toNatClampNeg (xs (nI (i + 2)).toNatClampNeg) (xs (nI (i + 3)).toNatClampNeg) k4 z k4).2.2.2.1 (xs (nI (i + 1)).toNatClampNeg).toNatClampNeg - z.2.2.2.1 (xs (nI (i + 1)).toNatClampNeg).toNatClampNeg).toInt64) = 0 from zcmp _]
      refine lv_if_eq (tgt := 417) hx hb dL_law_412 (by decide) (fun _ => ?_) (fun c_412 => absurd c_412 (by decide))
      refine lv_goto (tgt := 1254) hx hb dL_law_417 (by decide) ?_
      refine W.widen (k := cells + 1) (n := slots + 6) (by omega) (by omega) ?_
      exact kk (zSl c (xs (nI (i + 1)).toNatClampNeg).toNatClampNeg (xs (nI (i + 2)).toNatClampNeg) (xs (nI (i + 3)).toNatClampNeg) k4 z k4) c (0) (vp_updL g (0 : Int32).toNatClampNeg ((zSl c (xs (nI (i + 1)).toNatClampNeg).toNatClampNeg (xs (nI (i + 2)).toNatClampNeg) (xs (nI (i + 3)).toNatClampNeg) k4 z k4).2.2.2.1 (xs (nI (i + 1)).toNatClampNeg).toNatClampNeg - z.2.2.2.1 (xs (nI (i + 1)).toNatClampNeg).toNatClampNeg).toInt64) hc (zSl_ok hc hz _ hq.1 hq.2.1 hf hk4 _ (Nat.le_refl _)) _ _ hP hD hS ls (lv_sub hl [2, 3, 4, 5, 6] rfl)
    · refine lv_aload_n hx hb dL_law_328 rfl (lv_at hl 3 rfl) ?_
      refine lv_aload_n hx hb dL_law_329 rfl (lv_at hl 4 rfl) ?_
      refine lv_iload hx hb dL_law_330 (lv_at hl 0 rfl) ?_
      refine lv_iconst (v := 1) hx hb dL_law_332 (by decide) ?_
      refine lv_iadd hx hb dL_law_333 ?_
      rw [show (((nI i) + 1) : Int32) = (nI (i + 1)) from (nI_add i 1)]
      refine va_sld hx hb hX hbl hbA hS (vp_in_nI (by omega) (by omega)) dL_law_334 ?_
      refine lv_aload_n hx hb dL_law_335 rfl (lv_at hl 4 rfl) ?_
      refine lv_iload hx hb dL_law_336 (lv_at hl 0 rfl) ?_
      refine lv_iconst (v := 2) hx hb dL_law_338 (by decide) ?_
      refine lv_iadd hx hb dL_law_339 ?_
      rw [show (((nI i) + 2) : Int32) = (nI (i + 2)) from (nI_add i 2)]
      refine va_sld hx hb hX hbl hbA hS (vp_in_nI (by omega) (by omega)) dL_law_340 ?_
      refine lv_aload_n hx hb dL_law_341 rfl (lv_at hl 4 rfl) ?_
      refine lv_iload hx hb dL_law_342 (lv_at hl 0 rfl) ?_
      refine lv_iconst (v := 3) hx hb dL_law_344 (by decide) ?_
      refine lv_iadd hx hb dL_law_345 ?_
      rw [show (((nI i) + 3) : Int32) = (nI (i + 3)) from (nI_add i 3)]
      refine va_sld hx hb hX hbl hbA hS (vp_in_nI (by omega) (by omega)) dL_law_346 ?_
      refine lv_aload_n hx hb dL_law_347 rfl (lv_at hl 4 rfl) ?_
      refine lv_iload hx hb dL_law_348 (lv_at hl 0 rfl) ?_
      refine lv_iconst (v := 4) hx hb dL_law_350 (by decide) ?_
      refine lv_iadd hx hb dL_law_351 ?_
      rw [show (((nI i) + 4) : Int32) = (nI (i + 4)) from (nI_add i 4)]
      refine va_sld hx hb hX hbl hbA hS (vp_in_nI (by omega) (by omega)) dL_law_352 ?_
      refine lv_aload_n hx hb dL_law_353 rfl (lv_at hl 1 rfl) ?_
      refine va_calli (vx_runSW (As := [.ref h, .int (xs (nI (i + 1)).toNatClampNeg), .int (xs (nI (i + 2)).toNatClampNeg), .int (xs (nI (i + 3)).toNatClampNeg), .int (xs (nI (i + 4)).toNatClampNeg), .ref o]) (rest := []) ⟨hx, hb, hml, hown, hts⟩ (c_L_slide_2 l hst D s.heap.size cA cL (wM hm d2 cA (th) z c) h d z c o g (xs (nI (i + 1)).toNatClampNeg) (xs (nI (i + 2)).toNatClampNeg) (xs (nI (i + 3)).toNatClampNeg) (xs (nI (i + 4)).toNatClampNeg) hw hq) (vx_cwSW 6 hts gL_law_L_slide rfl rfl rfl (by decide +kernel) ⟨Nat.le_of_ble_eq_true rfl, Nat.le_of_ble_eq_true rfl⟩) ⟨zPre.blind, zPre.call (Nat.le_refl _) hP hD hK hE hS⟩ rfl rfl hl.1 rfl (lv_room (Nat.le_of_ble_eq_true rfl)) dL_law_354 hf1) hS (fun _ _ h9 => h9) (fun _ h9 => h9) (fun r_354 _ t H locs ht hvm h_354 hB hz1 hk1 hS => ?_)
      have h_354 : r_354 = 2 := h_354
      subst h_354
      obtain ⟨hP, hD⟩ := hB
      rw [ht] at hP
      have hP : va_P D vwCl (wX h d cA z c ++ ((o, .inl (cL, 1, .inr (.inl g))) :: wM hm d2 cA (th) z c)) H := hP
      have hD : va_D (zA s.heap.size) (wX h d cA z c ++ ((o, .inl (cL, 1, .inr (.inl g))) :: wM hm d2 cA (th) z c)) := hD
      refine lv_istore (lv' := [(5, .int 2), (4, .int (nI i)), (3, .ref o), (2, .ref hm), (1, .ref h), (0, .ref b)]) hx hb dL_law_357 hl (by decide) rfl (fun ls hl => ?_)
      refine lv_aload_n hx hb dL_law_359 rfl (lv_at hl 3 rfl) ?_
      refine lv_aload_n hx hb dL_law_360 rfl (lv_at hl 5 rfl) ?_
      refine lv_iload hx hb dL_law_361 (lv_at hl 1 rfl) ?_
      refine lv_iconst (v := 1) hx hb dL_law_363 (by decide) ?_
      refine lv_iadd hx hb dL_law_364 ?_
      rw [show (((nI i) + 1) : Int32) = (nI (i + 1)) from (nI_add i 1)]
      refine va_sld hx hb hX hbl hbA hS (vp_in_nI (by omega) (by omega)) dL_law_365 ?_
      refine lv_aload_n hx hb dL_law_366 rfl (lv_at hl 5 rfl) ?_
      refine lv_iload hx hb dL_law_367 (lv_at hl 1 rfl) ?_
      refine lv_iconst (v := 2) hx hb dL_law_369 (by decide) ?_
      refine lv_iadd hx hb dL_law_370 ?_
      rw [show (((nI i) + 2) : Int32) = (nI (i + 2)) from (nI_add i 2)]
      refine va_sld hx hb hX hbl hbA hS (vp_in_nI (by omega) (by omega)) dL_law_371 ?_
      refine lv_aload_n hx hb dL_law_372 rfl (lv_at hl 5 rfl) ?_
      refine lv_iload hx hb dL_law_373 (lv_at hl 1 rfl) ?_
      refine lv_iconst (v := 3) hx hb dL_law_375 (by decide) ?_
      refine lv_iadd hx hb dL_law_376 ?_
      rw [show (((nI i) + 3) : Int32) = (nI (i + 3)) from (nI_add i 3)]
      refine va_sld hx hb hX hbl hbA hS (vp_in_nI (by omega) (by omega)) dL_law_377 ?_
      refine lv_aload_n hx hb dL_law_378 rfl (lv_at hl 5 rfl) ?_
      refine lv_iload hx hb dL_law_379 (lv_at hl 1 rfl) ?_
      refine lv_iconst (v := 4) hx hb dL_law_381 (by decide) ?_
      refine lv_iadd hx hb dL_law_382 ?_
      rw [show (((nI i) + 4) : Int32) = (nI (i + 4)) from (nI_add i 4)]
      refine va_sld hx hb hX hbl hbA hS (vp_in_nI (by omega) (by omega)) dL_law_383 ?_
      have hP : va_P D vwCl (wM hm d2 cA (th) z c ++ (wX h d cA z c ++ [(o, .inl (cL, 1, .inr (.inl g)))])) H := hP.sub [9, 10, 11, 12, 13, 14, 15, 16, 0, 1, 2, 3, 4, 5, 6, 7, 8] rfl
      have hD : va_D (zA s.heap.size) (wM hm d2 cA (th) z c ++ (wX h d cA z c ++ [(o, .inl (cL, 1, .inr (.inl g)))])) := hD.sub [9, 10, 11, 12, 13, 14, 15, 16, 0, 1, 2, 3, 4, 5, 6, 7, 8] (by decide) rfl
      refine va_calli (va_runV (As := [.int (xs (nI (i + 1)).toNatClampNeg), .int (xs (nI (i + 2)).toNatClampNeg), .int (xs (nI (i + 3)).toNatClampNeg), .int (xs (nI (i + 4)).toNatClampNeg)]) (rest := []) ⟨hx, hb, hml, hown, hts⟩ (c_X1_slide_2 l D s.heap.size cA cL (wX h d cA z c ++ [(o, .inl (cL, 1, .inr (.inl g)))]) hm d2 (th) z c (xs (nI (i + 1)).toNatClampNeg) (xs (nI (i + 2)).toNatClampNeg) (xs (nI (i + 3)).toNatClampNeg) (xs (nI (i + 4)).toNatClampNeg) hw hq) (cwV 4 hts gL_law_X1_slide rfl rfl rfl (by decide +kernel) ⟨Nat.le_of_ble_eq_true rfl, Nat.le_of_ble_eq_true rfl⟩) ⟨zPre.blind, va_recv hK hP (ci := 1) (q0 := 0) rfl rfl, zPre.call (Nat.le_refl _) hP hD hK hE hS⟩ rfl rfl hl.1 rfl (lv_room (Nat.le_of_ble_eq_true rfl)) dL_law_384 hf1) hS (fun _ _ h9 => h9) (fun _ h9 => h9) (fun r_384 _ t H locs ht hvm h_384 hB hz1 hk1 hS => ?_)
      have h_384 : r_384 = (0) := h_384
      subst h_384
      obtain ⟨hP, hD⟩ := hB
      rw [ht] at hP
      have hP : va_P D vwCl (wM hm d2 cA (2) z c ++ (wX h d cA z c ++ [(o, .inl (cL, 1, .inr (.inl g)))])) H := hP
      have hD : va_D (zA s.heap.size) (wM hm d2 cA (2) z c ++ (wX h d cA z c ++ [(o, .inl (cL, 1, .inr (.inl g)))])) := hD
      refine lv_istore (lv' := [(6, .int 0), (5, .int 2), (4, .int (nI i)), (3, .ref o), (2, .ref hm), (1, .ref h), (0, .ref b)]) hx hb dL_law_387 hl (by decide) rfl (fun ls hl => ?_)
      refine lv_aload_n hx hb dL_law_389 rfl (lv_at hl 4 rfl) ?_
      refine vp_callSi ((va_runV (As := []) (rest := []) ⟨hx, hb, hml, hown, hts⟩ (c_X1_thrown l D s.heap.size cA cL (wX h d cA z c ++ [(o, .inl (cL, 1, .inr (.inl g)))]) hm d2 (2) z c  ) (cwV 0 hts gL_law_X1_thrown rfl rfl rfl (by decide +kernel) ⟨Nat.le_of_ble_eq_true rfl, Nat.le_of_ble_eq_true rfl⟩) ⟨zPre.blind, va_recv hK hP (ci := 1) (q0 := 0) rfl rfl, zPre.call (Nat.le_refl _) hP hD hK hE hS⟩ rfl rfl hl.1 rfl (lv_room (Nat.le_of_ble_eq_true rfl)) dL_law_390 hf1).run) (fun r_390 h_390 => ?_)
      have h_390 : r_390 = 2 := h_390
      subst h_390
      refine lv_iload hx hb dL_law_393 (lv_at hl 1 rfl) ?_
      refine lv_icmp_eq (tgt := 400) hx hb dL_law_395 (by decide) (fun _ => ?_) (fun c_395 => absurd c_395 (by decide))
      refine lv_iload hx hb dL_law_400 (lv_at hl 1 rfl) ?_
      refine lv_if_ne (tgt := 417) hx hb dL_law_402 (by decide) (fun _ => ?_) (fun c_402 => absurd c_402 (by decide))
      refine lv_goto (tgt := 1254) hx hb dL_law_417 (by decide) ?_
      have hP : va_P D vwCl (wX h d cA z c ++ ((o, .inl (cL, 1, .inr (.inl g))) :: wM hm d2 cA (2) z c)) H := hP.sub [8, 9, 10, 11, 12, 13, 14, 15, 16, 0, 1, 2, 3, 4, 5, 6, 7] rfl
      have hD : va_D (zA s.heap.size) (wX h d cA z c ++ ((o, .inl (cL, 1, .inr (.inl g))) :: wM hm d2 cA (2) z c)) := hD.sub [8, 9, 10, 11, 12, 13, 14, 15, 16, 0, 1, 2, 3, 4, 5, 6, 7] (by decide) rfl
      refine W.widen (k := cells + 1) (n := slots + 6) (by omega) (by omega) ?_
      exact kk z c (2) g hc hz _ _ hP hD hS ls (lv_sub hl [2, 3, 4, 5, 6] rfl)
  · refine lv_aload_n hx hb dL_law_328 rfl (lv_at hl 3 rfl) ?_
    refine lv_aload_n hx hb dL_law_329 rfl (lv_at hl 4 rfl) ?_
    refine lv_iload hx hb dL_law_330 (lv_at hl 0 rfl) ?_
    refine lv_iconst (v := 1) hx hb dL_law_332 (by decide) ?_
    refine lv_iadd hx hb dL_law_333 ?_
    rw [show (((nI i) + 1) : Int32) = (nI (i + 1)) from (nI_add i 1)]
    refine va_sld hx hb hX hbl hbA hS (vp_in_nI (by omega) (by omega)) dL_law_334 ?_
    refine lv_aload_n hx hb dL_law_335 rfl (lv_at hl 4 rfl) ?_
    refine lv_iload hx hb dL_law_336 (lv_at hl 0 rfl) ?_
    refine lv_iconst (v := 2) hx hb dL_law_338 (by decide) ?_
    refine lv_iadd hx hb dL_law_339 ?_
    rw [show (((nI i) + 2) : Int32) = (nI (i + 2)) from (nI_add i 2)]
    refine va_sld hx hb hX hbl hbA hS (vp_in_nI (by omega) (by omega)) dL_law_340 ?_
    refine lv_aload_n hx hb dL_law_341 rfl (lv_at hl 4 rfl) ?_
    refine lv_iload hx hb dL_law_342 (lv_at hl 0 rfl) ?_
    refine lv_iconst (v := 3) hx hb dL_law_344 (by decide) ?_
    refine lv_iadd hx hb dL_law_345 ?_
    rw [show (((nI i) + 3) : Int32) = (nI (i + 3)) from (nI_add i 3)]
    refine va_sld hx hb hX hbl hbA hS (vp_in_nI (by omega) (by omega)) dL_law_346 ?_
    refine lv_aload_n hx hb dL_law_347 rfl (lv_at hl 4 rfl) ?_
    refine lv_iload hx hb dL_law_348 (lv_at hl 0 rfl) ?_
    refine lv_iconst (v := 4) hx hb dL_law_350 (by decide) ?_
    refine lv_iadd hx hb dL_law_351 ?_
    rw [show (((nI i) + 4) : Int32) = (nI (i + 4)) from (nI_add i 4)]
    refine va_sld hx hb hX hbl hbA hS (vp_in_nI (by omega) (by omega)) dL_law_352 ?_
    refine lv_aload_n hx hb dL_law_353 rfl (lv_at hl 1 rfl) ?_
    refine va_calli (vx_runSW (As := [.ref h, .int (xs (nI (i + 1)).toNatClampNeg), .int (xs (nI (i + 2)).toNatClampNeg), .int (xs (nI (i + 3)).toNatClampNeg), .int (xs (nI (i + 4)).toNatClampNeg), .ref o]) (rest := []) ⟨hx, hb, hml, hown, hts⟩ (c_L_slide_1 l hst D s.heap.size cA cL (wM hm d2 cA (th) z c) h d z c o g (xs (nI (i + 1)).toNatClampNeg) (xs (nI (i + 2)).toNatClampNeg) (xs (nI (i + 3)).toNatClampNeg) (xs (nI (i + 4)).toNatClampNeg) hw) (vx_cwSW 6 hts gL_law_L_slide rfl rfl rfl (by decide +kernel) ⟨Nat.le_of_ble_eq_true rfl, Nat.le_of_ble_eq_true rfl⟩) ⟨zPre.blind, zPre.call (Nat.le_refl _) hP hD hK hE hS⟩ rfl rfl hl.1 rfl (lv_room (Nat.le_of_ble_eq_true rfl)) dL_law_354 hf1) hS (fun _ _ h9 => h9) (fun _ h9 => h9) (fun r_354 _ t H locs ht hvm h_354 hB hz1 hk1 hS => ?_)
    have h_354 : r_354 = 1 := h_354
    subst h_354
    obtain ⟨hP, hD⟩ := hB
    rw [ht] at hP
    have hP : va_P D vwCl (wX h d cA z c ++ ((o, .inl (cL, 1, .inr (.inl g))) :: wM hm d2 cA (th) z c)) H := hP
    have hD : va_D (zA s.heap.size) (wX h d cA z c ++ ((o, .inl (cL, 1, .inr (.inl g))) :: wM hm d2 cA (th) z c)) := hD
    refine lv_istore (lv' := [(5, .int 1), (4, .int (nI i)), (3, .ref o), (2, .ref hm), (1, .ref h), (0, .ref b)]) hx hb dL_law_357 hl (by decide) rfl (fun ls hl => ?_)
    refine lv_aload_n hx hb dL_law_359 rfl (lv_at hl 3 rfl) ?_
    refine lv_aload_n hx hb dL_law_360 rfl (lv_at hl 5 rfl) ?_
    refine lv_iload hx hb dL_law_361 (lv_at hl 1 rfl) ?_
    refine lv_iconst (v := 1) hx hb dL_law_363 (by decide) ?_
    refine lv_iadd hx hb dL_law_364 ?_
    rw [show (((nI i) + 1) : Int32) = (nI (i + 1)) from (nI_add i 1)]
    refine va_sld hx hb hX hbl hbA hS (vp_in_nI (by omega) (by omega)) dL_law_365 ?_
    refine lv_aload_n hx hb dL_law_366 rfl (lv_at hl 5 rfl) ?_
    refine lv_iload hx hb dL_law_367 (lv_at hl 1 rfl) ?_
    refine lv_iconst (v := 2) hx hb dL_law_369 (by decide) ?_
    refine lv_iadd hx hb dL_law_370 ?_
    rw [show (((nI i) + 2) : Int32) = (nI (i + 2)) from (nI_add i 2)]
    refine va_sld hx hb hX hbl hbA hS (vp_in_nI (by omega) (by omega)) dL_law_371 ?_
    refine lv_aload_n hx hb dL_law_372 rfl (lv_at hl 5 rfl) ?_
    refine lv_iload hx hb dL_law_373 (lv_at hl 1 rfl) ?_
    refine lv_iconst (v := 3) hx hb dL_law_375 (by decide) ?_
    refine lv_iadd hx hb dL_law_376 ?_
    rw [show (((nI i) + 3) : Int32) = (nI (i + 3)) from (nI_add i 3)]
    refine va_sld hx hb hX hbl hbA hS (vp_in_nI (by omega) (by omega)) dL_law_377 ?_
    refine lv_aload_n hx hb dL_law_378 rfl (lv_at hl 5 rfl) ?_
    refine lv_iload hx hb dL_law_379 (lv_at hl 1 rfl) ?_
    refine lv_iconst (v := 4) hx hb dL_law_381 (by decide) ?_
    refine lv_iadd hx hb dL_law_382 ?_
    rw [show (((nI i) + 4) : Int32) = (nI (i + 4)) from (nI_add i 4)]
    refine va_sld hx hb hX hbl hbA hS (vp_in_nI (by omega) (by omega)) dL_law_383 ?_
    have hP : va_P D vwCl (wM hm d2 cA (th) z c ++ (wX h d cA z c ++ [(o, .inl (cL, 1, .inr (.inl g)))])) H := hP.sub [9, 10, 11, 12, 13, 14, 15, 16, 0, 1, 2, 3, 4, 5, 6, 7, 8] rfl
    have hD : va_D (zA s.heap.size) (wM hm d2 cA (th) z c ++ (wX h d cA z c ++ [(o, .inl (cL, 1, .inr (.inl g)))])) := hD.sub [9, 10, 11, 12, 13, 14, 15, 16, 0, 1, 2, 3, 4, 5, 6, 7, 8] (by decide) rfl
    refine va_calli (va_runV (As := [.int (xs (nI (i + 1)).toNatClampNeg), .int (xs (nI (i + 2)).toNatClampNeg), .int (xs (nI (i + 3)).toNatClampNeg), .int (xs (nI (i + 4)).toNatClampNeg)]) (rest := []) ⟨hx, hb, hml, hown, hts⟩ (c_X1_slide_1 l D s.heap.size cA cL (wX h d cA z c ++ [(o, .inl (cL, 1, .inr (.inl g)))]) hm d2 (th) z c (xs (nI (i + 1)).toNatClampNeg) (xs (nI (i + 2)).toNatClampNeg) (xs (nI (i + 3)).toNatClampNeg) (xs (nI (i + 4)).toNatClampNeg) hw) (cwV 4 hts gL_law_X1_slide rfl rfl rfl (by decide +kernel) ⟨Nat.le_of_ble_eq_true rfl, Nat.le_of_ble_eq_true rfl⟩) ⟨zPre.blind, va_recv hK hP (ci := 1) (q0 := 0) rfl rfl, zPre.call (Nat.le_refl _) hP hD hK hE hS⟩ rfl rfl hl.1 rfl (lv_room (Nat.le_of_ble_eq_true rfl)) dL_law_384 hf1) hS (fun _ _ h9 => h9) (fun _ h9 => h9) (fun r_384 _ t H locs ht hvm h_384 hB hz1 hk1 hS => ?_)
    have h_384 : r_384 = (0) := h_384
    subst h_384
    obtain ⟨hP, hD⟩ := hB
    rw [ht] at hP
    have hP : va_P D vwCl (wM hm d2 cA (1) z c ++ (wX h d cA z c ++ [(o, .inl (cL, 1, .inr (.inl g)))])) H := hP
    have hD : va_D (zA s.heap.size) (wM hm d2 cA (1) z c ++ (wX h d cA z c ++ [(o, .inl (cL, 1, .inr (.inl g)))])) := hD
    refine lv_istore (lv' := [(6, .int 0), (5, .int 1), (4, .int (nI i)), (3, .ref o), (2, .ref hm), (1, .ref h), (0, .ref b)]) hx hb dL_law_387 hl (by decide) rfl (fun ls hl => ?_)
    refine lv_aload_n hx hb dL_law_389 rfl (lv_at hl 4 rfl) ?_
    refine vp_callSi ((va_runV (As := []) (rest := []) ⟨hx, hb, hml, hown, hts⟩ (c_X1_thrown l D s.heap.size cA cL (wX h d cA z c ++ [(o, .inl (cL, 1, .inr (.inl g)))]) hm d2 (1) z c  ) (cwV 0 hts gL_law_X1_thrown rfl rfl rfl (by decide +kernel) ⟨Nat.le_of_ble_eq_true rfl, Nat.le_of_ble_eq_true rfl⟩) ⟨zPre.blind, va_recv hK hP (ci := 1) (q0 := 0) rfl rfl, zPre.call (Nat.le_refl _) hP hD hK hE hS⟩ rfl rfl hl.1 rfl (lv_room (Nat.le_of_ble_eq_true rfl)) dL_law_390 hf1).run) (fun r_390 h_390 => ?_)
    have h_390 : r_390 = 1 := h_390
    subst h_390
    refine lv_iload hx hb dL_law_393 (lv_at hl 1 rfl) ?_
    refine lv_icmp_eq (tgt := 400) hx hb dL_law_395 (by decide) (fun _ => ?_) (fun c_395 => absurd c_395 (by decide))
    refine lv_iload hx hb dL_law_400 (lv_at hl 1 rfl) ?_
    refine lv_if_ne (tgt := 417) hx hb dL_law_402 (by decide) (fun _ => ?_) (fun c_402 => absurd c_402 (by decide))
    refine lv_goto (tgt := 1254) hx hb dL_law_417 (by decide) ?_
    have hP : va_P D vwCl (wX h d cA z c ++ ((o, .inl (cL, 1, .inr (.inl g))) :: wM hm d2 cA (1) z c)) H := hP.sub [8, 9, 10, 11, 12, 13, 14, 15, 16, 0, 1, 2, 3, 4, 5, 6, 7] rfl
    have hD : va_D (zA s.heap.size) (wX h d cA z c ++ ((o, .inl (cL, 1, .inr (.inl g))) :: wM hm d2 cA (1) z c)) := hD.sub [8, 9, 10, 11, 12, 13, 14, 15, 16, 0, 1, 2, 3, 4, 5, 6, 7] (by decide) rfl
    refine W.widen (k := cells + 1) (n := slots + 6) (by omega) (by omega) ?_
    exact kk z c (1) g hc hz _ _ hP hD hS ls (lv_sub hl [2, 3, 4, 5, 6] rfl)

set_option maxHeartbeats 8000000 in
set_option maxRecDepth 100000 in
theorem law_4 {p : Program} {l : Launch} {e : Env} {s : State} {m : MethodId} {below : List Frame} {meth : Method} {cd : Code} {b L : Nat} {xs : Nat → Int32} {D : va_G} {cA cL : ClassId} (C9 : zC9 p l s m meth cd b L xs D cA cL) {h hm o : Nat} {d d2 : Nat → Nat} {z : S7} {c : C5} {th : Int32} {g : Nat → Int64} (hc : okC c) (hz : okZ z) {i : Nat} (hi : i + 5 ≤ L) {cells slots : Nat} (hce : cells + 1 ≤ 1045) (hsl : slots + 6 ≤ 8314) (kk : zKK p l e s m below meth cd b D cA cL h hm o d d2 i cells slots) {H : Heap} {locs : List Loc} (hP : va_P D vwCl (zLW h d hm d2 o cA cL z c th g) H) (hD : va_D (zA s.heap.size) (zLW h d hm d2 o cA cL z c th g)) (hS : va_S (zA s.heap.size) s.heap H locs) {ls : Array Slot} (hl : lv_has ls 7 [(4, .int (nI i)), (3, .ref o), (2, .ref hm), (1, .ref h), (0, .ref b)]) : W p l e room_1 s m #[Value.ref b] below meth cd H locs cells slots (lw_Z below #[Value.ref b] s) (F0 m 420 ls []) := by
  obtain ⟨hst, hx, hb, hml, hown, hts, hX, hbl, hK, hE, hL⟩ := C9
  have hbA : ¬ zA s.heap.size b := Nat.not_le.mpr hbl
  have hf0 : cells + 0 ≤ room_1.cells ∧ slots + 0 ≤ room_1.slots := ⟨by show cells + 0 ≤ 1045; omega, by show slots + 0 ≤ 8314; omega⟩
  have hf1 : cells + 1 ≤ room_1.cells ∧ slots + 6 ≤ room_1.slots := ⟨hce, hsl⟩
  by_cases hw : zw (xs (nI (i + 1)).toNatClampNeg)
  · refine lv_aload_n hx hb dL_law_420 rfl (lv_at hl 3 rfl) ?_
    refine lv_aload_n hx hb dL_law_421 rfl (lv_at hl 4 rfl) ?_
    refine lv_iload hx hb dL_law_422 (lv_at hl 0 rfl) ?_
    refine lv_iconst (v := 1) hx hb dL_law_424 (by decide) ?_
    refine lv_iadd hx hb dL_law_425 ?_
    rw [show (((nI i) + 1) : Int32) = (nI (i + 1)) from (nI_add i 1)]
    refine va_sld hx hb hX hbl hbA hS (vp_in_nI (by omega) (by omega)) dL_law_426 ?_
    refine lv_aload_n hx hb dL_law_427 rfl (lv_at hl 1 rfl) ?_
    refine va_calli (vx_runSW (As := [.ref h, .int (xs (nI (i + 1)).toNatClampNeg), .ref o]) (rest := []) ⟨hx, hb, hml, hown, hts⟩ (c_L_rest_v l D s.heap.size cA cL (wM hm d2 cA (th) z c) h d z c o g (xs (nI (i + 1)).toNatClampNeg) hw) (vx_cwSW 3 hts gL_law_L_rest rfl rfl rfl (by decide +kernel) ⟨Nat.le_of_ble_eq_true rfl, Nat.le_of_ble_eq_true rfl⟩) ⟨zPre.blind, zPre.call (Nat.le_refl _) hP hD hK hE hS⟩ rfl rfl hl.1 rfl (lv_room (Nat.le_of_ble_eq_true rfl)) dL_law_428 hf0) hS (fun _ _ h9 => h9) (fun _ h9 => h9) (fun r_428 _ t H locs ht hvm h_428 hB hz1 hk1 hS => ?_)
    have h_428 : r_428 = 0 := h_428
    subst h_428
    obtain ⟨hP, hD⟩ := hB
    rw [ht] at hP
    have hP : va_P D vwCl (wX h d cA ((upd z.1 (xs (nI (i + 1)).toNatClampNeg).toNatClampNeg (-1)), (upd z.2.1 (xs (nI (i + 1)).toNatClampNeg).toNatClampNeg 0), z.2.2.1, z.2.2.2.1, z.2.2.2.2.1, z.2.2.2.2.2.1, z.2.2.2.2.2.2) c ++ ((o, .inl (cL, 1, .inr (.inl (vp_updL g (0 : Int32).toNatClampNeg (z.1 (xs (nI (i + 1)).toNatClampNeg).toNatClampNeg).toInt64)))) :: wM hm d2 cA (th) z c)) H := hP
    have hD : va_D (zA s.heap.size) (wX h d cA ((upd z.1 (xs (nI (i + 1)).toNatClampNeg).toNatClampNeg (-1)), (upd z.2.1 (xs (nI (i + 1)).toNatClampNeg).toNatClampNeg 0), z.2.2.1, z.2.2.2.1, z.2.2.2.2.1, z.2.2.2.2.2.1, z.2.2.2.2.2.2) c ++ ((o, .inl (cL, 1, .inr (.inl (vp_updL g (0 : Int32).toNatClampNeg (z.1 (xs (nI (i + 1)).toNatClampNeg).toNatClampNeg).toInt64)))) :: wM hm d2 cA (th) z c)) := hD
    refine lv_istore (lv' := [(5, .int 0), (4, .int (nI i)), (3, .ref o), (2, .ref hm), (1, .ref h), (0, .ref b)]) hx hb dL_law_431 hl (by decide) rfl (fun ls hl => ?_)
    refine lv_aload_n hx hb dL_law_433 rfl (lv_at hl 3 rfl) ?_
    refine lv_aload_n hx hb dL_law_434 rfl (lv_at hl 5 rfl) ?_
    refine lv_iload hx hb dL_law_435 (lv_at hl 1 rfl) ?_
    refine lv_iconst (v := 1) hx hb dL_law_437 (by decide) ?_
    refine lv_iadd hx hb dL_law_438 ?_
    rw [show (((nI i) + 1) : Int32) = (nI (i + 1)) from (nI_add i 1)]
    refine va_sld hx hb hX hbl hbA hS (vp_in_nI (by omega) (by omega)) dL_law_439 ?_
    have hP : va_P D vwCl (wM hm d2 cA (th) z c ++ (wX h d cA ((upd z.1 (xs (nI (i + 1)).toNatClampNeg).toNatClampNeg (-1)), (upd z.2.1 (xs (nI (i + 1)).toNatClampNeg).toNatClampNeg 0), z.2.2.1, z.2.2.2.1, z.2.2.2.2.1, z.2.2.2.2.2.1, z.2.2.2.2.2.2) c ++ [(o, .inl (cL, 1, .inr (.inl (vp_updL g (0 : Int32).toNatClampNeg (z.1 (xs (nI (i + 1)).toNatClampNeg).toNatClampNeg).toInt64))))])) H := hP.sub [9, 10, 11, 12, 13, 14, 15, 16, 0, 1, 2, 3, 4, 5, 6, 7, 8] rfl
    have hD : va_D (zA s.heap.size) (wM hm d2 cA (th) z c ++ (wX h d cA ((upd z.1 (xs (nI (i + 1)).toNatClampNeg).toNatClampNeg (-1)), (upd z.2.1 (xs (nI (i + 1)).toNatClampNeg).toNatClampNeg 0), z.2.2.1, z.2.2.2.1, z.2.2.2.2.1, z.2.2.2.2.2.1, z.2.2.2.2.2.2) c ++ [(o, .inl (cL, 1, .inr (.inl (vp_updL g (0 : Int32).toNatClampNeg (z.1 (xs (nI (i + 1)).toNatClampNeg).toNatClampNeg).toInt64))))])) := hD.sub [9, 10, 11, 12, 13, 14, 15, 16, 0, 1, 2, 3, 4, 5, 6, 7, 8] (by decide) rfl
    refine va_calli (va_runV (As := [.int (xs (nI (i + 1)).toNatClampNeg)]) (rest := []) ⟨hx, hb, hml, hown, hts⟩ (c_X1_rest_v l D s.heap.size cA cL (wX h d cA ((upd z.1 (xs (nI (i + 1)).toNatClampNeg).toNatClampNeg (-1)), (upd z.2.1 (xs (nI (i + 1)).toNatClampNeg).toNatClampNeg 0), z.2.2.1, z.2.2.2.1, z.2.2.2.2.1, z.2.2.2.2.2.1, z.2.2.2.2.2.2) c ++ [(o, .inl (cL, 1, .inr (.inl (vp_updL g (0 : Int32).toNatClampNeg (z.1 (xs (nI (i + 1)).toNatClampNeg).toNatClampNeg).toInt64))))]) hm d2 (th) z c (xs (nI (i + 1)).toNatClampNeg) hw) (cwV 1 hts gL_law_X1_rest rfl rfl rfl (by decide +kernel) ⟨Nat.le_of_ble_eq_true rfl, Nat.le_of_ble_eq_true rfl⟩) ⟨zPre.blind, va_recv hK hP (ci := 1) (q0 := 0) rfl rfl, zPre.call (Nat.le_refl _) hP hD hK hE hS⟩ rfl rfl hl.1 rfl (lv_room (Nat.le_of_ble_eq_true rfl)) dL_law_440 hf0) hS (fun _ _ h9 => h9) (fun _ h9 => h9) (fun r_440 _ t H locs ht hvm h_440 hB hz1 hk1 hS => ?_)
    have h_440 : r_440 = (z.1 (xs (nI (i + 1)).toNatClampNeg).toNatClampNeg) := h_440
    subst h_440
    obtain ⟨hP, hD⟩ := hB
    rw [ht] at hP
    have hP : va_P D vwCl (wM hm d2 cA (0) ((upd z.1 (xs (nI (i + 1)).toNatClampNeg).toNatClampNeg (-1)), (upd z.2.1 (xs (nI (i + 1)).toNatClampNeg).toNatClampNeg 0), z.2.2.1, z.2.2.2.1, z.2.2.2.2.1, z.2.2.2.2.2.1, z.2.2.2.2.2.2) c ++ (wX h d cA ((upd z.1 (xs (nI (i + 1)).toNatClampNeg).toNatClampNeg (-1)), (upd z.2.1 (xs (nI (i + 1)).toNatClampNeg).toNatClampNeg 0), z.2.2.1, z.2.2.2.1, z.2.2.2.2.1, z.2.2.2.2.2.1, z.2.2.2.2.2.2) c ++ [(o, .inl (cL, 1, .inr (.inl (vp_updL g (0 : Int32).toNatClampNeg (z.1 (xs (nI (i + 1)).toNatClampNeg).toNatClampNeg).toInt64))))])) H := hP
    have hD : va_D (zA s.heap.size) (wM hm d2 cA (0) ((upd z.1 (xs (nI (i + 1)).toNatClampNeg).toNatClampNeg (-1)), (upd z.2.1 (xs (nI (i + 1)).toNatClampNeg).toNatClampNeg 0), z.2.2.1, z.2.2.2.1, z.2.2.2.2.1, z.2.2.2.2.2.1, z.2.2.2.2.2.2) c ++ (wX h d cA ((upd z.1 (xs (nI (i + 1)).toNatClampNeg).toNatClampNeg (-1)), (upd z.2.1 (xs (nI (i + 1)).toNatClampNeg).toNatClampNeg 0), z.2.2.1, z.2.2.2.1, z.2.2.2.2.1, z.2.2.2.2.2.1, z.2.2.2.2.2.2) c ++ [(o, .inl (cL, 1, .inr (.inl (vp_updL g (0 : Int32).toNatClampNeg (z.1 (xs (nI (i + 1)).toNatClampNeg).toNatClampNeg).toInt64))))])) := hD
    refine lv_istore (lv' := [(6, .int (z.1 (xs (nI (i + 1)).toNatClampNeg).toNatClampNeg)), (5, .int 0), (4, .int (nI i)), (3, .ref o), (2, .ref hm), (1, .ref h), (0, .ref b)]) hx hb dL_law_443 hl (by decide) rfl (fun ls hl => ?_)
    refine lv_aload_n hx hb dL_law_445 rfl (lv_at hl 4 rfl) ?_
    refine vp_callSi ((va_runV (As := []) (rest := []) ⟨hx, hb, hml, hown, hts⟩ (c_X1_thrown l D s.heap.size cA cL (wX h d cA ((upd z.1 (xs (nI (i + 1)).toNatClampNeg).toNatClampNeg (-1)), (upd z.2.1 (xs (nI (i + 1)).toNatClampNeg).toNatClampNeg 0), z.2.2.1, z.2.2.2.1, z.2.2.2.2.1, z.2.2.2.2.2.1, z.2.2.2.2.2.2) c ++ [(o, .inl (cL, 1, .inr (.inl (vp_updL g (0 : Int32).toNatClampNeg (z.1 (xs (nI (i + 1)).toNatClampNeg).toNatClampNeg).toInt64))))]) hm d2 (0) ((upd z.1 (xs (nI (i + 1)).toNatClampNeg).toNatClampNeg (-1)), (upd z.2.1 (xs (nI (i + 1)).toNatClampNeg).toNatClampNeg 0), z.2.2.1, z.2.2.2.1, z.2.2.2.2.1, z.2.2.2.2.2.1, z.2.2.2.2.2.2) c  ) (cwV 0 hts gL_law_X1_thrown rfl rfl rfl (by decide +kernel) ⟨Nat.le_of_ble_eq_true rfl, Nat.le_of_ble_eq_true rfl⟩) ⟨zPre.blind, va_recv hK hP (ci := 1) (q0 := 0) rfl rfl, zPre.call (Nat.le_refl _) hP hD hK hE hS⟩ rfl rfl hl.1 rfl (lv_room (Nat.le_of_ble_eq_true rfl)) dL_law_446 hf0).run) (fun r_446 h_446 => ?_)
    have h_446 : r_446 = 0 := h_446
    subst h_446
    refine lv_iload hx hb dL_law_449 (lv_at hl 1 rfl) ?_
    refine lv_icmp_eq (tgt := 456) hx hb dL_law_451 (by decide) (fun _ => ?_) (fun c_451 => absurd c_451 (by decide))
    refine lv_iload hx hb dL_law_456 (lv_at hl 1 rfl) ?_
    refine lv_if_ne (tgt := 473) hx hb dL_law_458 (by decide) (fun c_458 => absurd c_458 (by decide)) (fun _ => ?_)
    refine lv_aload_n hx hb dL_law_461 rfl (lv_at hl 3 rfl) ?_
    refine lv_iconst (v := 0) hx hb dL_law_462 (by decide) ?_
    have hP : va_P D vwCl (wX h d cA ((upd z.1 (xs (nI (i + 1)).toNatClampNeg).toNatClampNeg (-1)), (upd z.2.1 (xs (nI (i + 1)).toNatClampNeg).toNatClampNeg 0), z.2.2.1, z.2.2.2.1, z.2.2.2.2.1, z.2.2.2.2.2.1, z.2.2.2.2.2.2) c ++ ((o, .inl (cL, 1, .inr (.inl (vp_updL g (0 : Int32).toNatClampNeg (z.1 (xs (nI (i + 1)).toNatClampNeg).toNatClampNeg).toInt64)))) :: wM hm d2 cA (0) ((upd z.1 (xs (nI (i + 1)).toNatClampNeg).toNatClampNeg (-1)), (upd z.2.1 (xs (nI (i + 1)).toNatClampNeg).toNatClampNeg 0), z.2.2.1, z.2.2.2.1, z.2.2.2.2.1, z.2.2.2.2.2.1, z.2.2.2.2.2.2) c)) H := hP.sub [8, 9, 10, 11, 12, 13, 14, 15, 16, 0, 1, 2, 3, 4, 5, 6, 7] rfl
    have hD : va_D (zA s.heap.size) (wX h d cA ((upd z.1 (xs (nI (i + 1)).toNatClampNeg).toNatClampNeg (-1)), (upd z.2.1 (xs (nI (i + 1)).toNatClampNeg).toNatClampNeg 0), z.2.2.1, z.2.2.2.1, z.2.2.2.2.1, z.2.2.2.2.2.1, z.2.2.2.2.2.2) c ++ ((o, .inl (cL, 1, .inr (.inl (vp_updL g (0 : Int32).toNatClampNeg (z.1 (xs (nI (i + 1)).toNatClampNeg).toNatClampNeg).toInt64)))) :: wM hm d2 cA (0) ((upd z.1 (xs (nI (i + 1)).toNatClampNeg).toNatClampNeg (-1)), (upd z.2.1 (xs (nI (i + 1)).toNatClampNeg).toNatClampNeg 0), z.2.2.1, z.2.2.2.1, z.2.2.2.2.1, z.2.2.2.2.2.1, z.2.2.2.2.2.2) c)) := hD.sub [8, 9, 10, 11, 12, 13, 14, 15, 16, 0, 1, 2, 3, 4, 5, 6, 7] (by decide) rfl
    refine va_lald hx hb hK hP 8 1 rfl rfl (vp_in_nI (n := 0) (by decide) (by decide)) dL_law_463 ?_
    rw [show ((vp_updL g (0 : Int32).toNatClampNeg (z.1 (xs (nI (i + 1)).toNatClampNeg).toNatClampNeg).toInt64) (0 : Int32).toNatClampNeg : Int64) = (z.1 (xs (nI (i + 1)).toNatClampNeg).toNatClampNeg).toInt64 from pk_uLs]
    refine lv_iload hx hb dL_law_464 (lv_at hl 0 rfl) ?_
    refine lv_i2l hx hb dL_law_466 rfl ?_
    refine W.lcmp hx hb dL_law_467 ?_
    rw [show lg_cmp ((z.1 (xs (nI (i + 1)).toNatClampNeg).toNatClampNeg).toInt64) ((z.1 (xs (nI (i + 1)).toNatClampNeg).toNatClampNeg).toInt64) = 0 from zcmp _]
    refine lv_if_eq (tgt := 473) hx hb dL_law_468 (by decide) (fun _ => ?_) (fun c_468 => absurd c_468 (by decide))
    refine lv_goto (tgt := 1254) hx hb dL_law_473 (by decide) ?_
    refine W.widen (k := cells + 1) (n := slots + 6) (by omega) (by omega) ?_
    exact kk ((upd z.1 (xs (nI (i + 1)).toNatClampNeg).toNatClampNeg (-1)), (upd z.2.1 (xs (nI (i + 1)).toNatClampNeg).toNatClampNeg 0), z.2.2.1, z.2.2.2.1, z.2.2.2.2.1, z.2.2.2.2.2.1, z.2.2.2.2.2.2) c (0) (vp_updL g (0 : Int32).toNatClampNeg (z.1 (xs (nI (i + 1)).toNatClampNeg).toNatClampNeg).toInt64) hc (zu_ok hz (Or.inl rfl)) _ _ hP hD hS ls (lv_sub hl [2, 3, 4, 5, 6] rfl)
  · refine lv_aload_n hx hb dL_law_420 rfl (lv_at hl 3 rfl) ?_
    refine lv_aload_n hx hb dL_law_421 rfl (lv_at hl 4 rfl) ?_
    refine lv_iload hx hb dL_law_422 (lv_at hl 0 rfl) ?_
    refine lv_iconst (v := 1) hx hb dL_law_424 (by decide) ?_
    refine lv_iadd hx hb dL_law_425 ?_
    rw [show (((nI i) + 1) : Int32) = (nI (i + 1)) from (nI_add i 1)]
    refine va_sld hx hb hX hbl hbA hS (vp_in_nI (by omega) (by omega)) dL_law_426 ?_
    refine lv_aload_n hx hb dL_law_427 rfl (lv_at hl 1 rfl) ?_
    refine va_calli (vx_runSW (As := [.ref h, .int (xs (nI (i + 1)).toNatClampNeg), .ref o]) (rest := []) ⟨hx, hb, hml, hown, hts⟩ (c_L_rest_1 l hst D s.heap.size cA cL (wM hm d2 cA (th) z c) h d z c o g (xs (nI (i + 1)).toNatClampNeg) hw) (vx_cwSW 3 hts gL_law_L_rest rfl rfl rfl (by decide +kernel) ⟨Nat.le_of_ble_eq_true rfl, Nat.le_of_ble_eq_true rfl⟩) ⟨zPre.blind, zPre.call (Nat.le_refl _) hP hD hK hE hS⟩ rfl rfl hl.1 rfl (lv_room (Nat.le_of_ble_eq_true rfl)) dL_law_428 hf1) hS (fun _ _ h9 => h9) (fun _ h9 => h9) (fun r_428 _ t H locs ht hvm h_428 hB hz1 hk1 hS => ?_)
    have h_428 : r_428 = 1 := h_428
    subst h_428
    obtain ⟨hP, hD⟩ := hB
    rw [ht] at hP
    have hP : va_P D vwCl (wX h d cA z c ++ ((o, .inl (cL, 1, .inr (.inl g))) :: wM hm d2 cA (th) z c)) H := hP
    have hD : va_D (zA s.heap.size) (wX h d cA z c ++ ((o, .inl (cL, 1, .inr (.inl g))) :: wM hm d2 cA (th) z c)) := hD
    refine lv_istore (lv' := [(5, .int 1), (4, .int (nI i)), (3, .ref o), (2, .ref hm), (1, .ref h), (0, .ref b)]) hx hb dL_law_431 hl (by decide) rfl (fun ls hl => ?_)
    refine lv_aload_n hx hb dL_law_433 rfl (lv_at hl 3 rfl) ?_
    refine lv_aload_n hx hb dL_law_434 rfl (lv_at hl 5 rfl) ?_
    refine lv_iload hx hb dL_law_435 (lv_at hl 1 rfl) ?_
    refine lv_iconst (v := 1) hx hb dL_law_437 (by decide) ?_
    refine lv_iadd hx hb dL_law_438 ?_
    rw [show (((nI i) + 1) : Int32) = (nI (i + 1)) from (nI_add i 1)]
    refine va_sld hx hb hX hbl hbA hS (vp_in_nI (by omega) (by omega)) dL_law_439 ?_
    have hP : va_P D vwCl (wM hm d2 cA (th) z c ++ (wX h d cA z c ++ [(o, .inl (cL, 1, .inr (.inl g)))])) H := hP.sub [9, 10, 11, 12, 13, 14, 15, 16, 0, 1, 2, 3, 4, 5, 6, 7, 8] rfl
    have hD : va_D (zA s.heap.size) (wM hm d2 cA (th) z c ++ (wX h d cA z c ++ [(o, .inl (cL, 1, .inr (.inl g)))])) := hD.sub [9, 10, 11, 12, 13, 14, 15, 16, 0, 1, 2, 3, 4, 5, 6, 7, 8] (by decide) rfl
    refine va_calli (va_runV (As := [.int (xs (nI (i + 1)).toNatClampNeg)]) (rest := []) ⟨hx, hb, hml, hown, hts⟩ (c_X1_rest_1 l D s.heap.size cA cL (wX h d cA z c ++ [(o, .inl (cL, 1, .inr (.inl g)))]) hm d2 (th) z c (xs (nI (i + 1)).toNatClampNeg) hw) (cwV 1 hts gL_law_X1_rest rfl rfl rfl (by decide +kernel) ⟨Nat.le_of_ble_eq_true rfl, Nat.le_of_ble_eq_true rfl⟩) ⟨zPre.blind, va_recv hK hP (ci := 1) (q0 := 0) rfl rfl, zPre.call (Nat.le_refl _) hP hD hK hE hS⟩ rfl rfl hl.1 rfl (lv_room (Nat.le_of_ble_eq_true rfl)) dL_law_440 hf1) hS (fun _ _ h9 => h9) (fun _ h9 => h9) (fun r_440 _ t H locs ht hvm h_440 hB hz1 hk1 hS => ?_)
    have h_440 : r_440 = (0) := h_440
    subst h_440
    obtain ⟨hP, hD⟩ := hB
    rw [ht] at hP
    have hP : va_P D vwCl (wM hm d2 cA (1) z c ++ (wX h d cA z c ++ [(o, .inl (cL, 1, .inr (.inl g)))])) H := hP
    have hD : va_D (zA s.heap.size) (wM hm d2 cA (1) z c ++ (wX h d cA z c ++ [(o, .inl (cL, 1, .inr (.inl g)))])) := hD
    refine lv_istore (lv' := [(6, .int 0), (5, .int 1), (4, .int (nI i)), (3, .ref o), (2, .ref hm), (1, .ref h), (0, .ref b)]) hx hb dL_law_443 hl (by decide) rfl (fun ls hl => ?_)
    refine lv_aload_n hx hb dL_law_445 rfl (lv_at hl 4 rfl) ?_
    refine vp_callSi ((va_runV (As := []) (rest := []) ⟨hx, hb, hml, hown, hts⟩ (c_X1_thrown l D s.heap.size cA cL (wX h d cA z c ++ [(o, .inl (cL, 1, .inr (.inl g)))]) hm d2 (1) z c  ) (cwV 0 hts gL_law_X1_thrown rfl rfl rfl (by decide +kernel) ⟨Nat.le_of_ble_eq_true rfl, Nat.le_of_ble_eq_true rfl⟩) ⟨zPre.blind, va_recv hK hP (ci := 1) (q0 := 0) rfl rfl, zPre.call (Nat.le_refl _) hP hD hK hE hS⟩ rfl rfl hl.1 rfl (lv_room (Nat.le_of_ble_eq_true rfl)) dL_law_446 hf1).run) (fun r_446 h_446 => ?_)
    have h_446 : r_446 = 1 := h_446
    subst h_446
    refine lv_iload hx hb dL_law_449 (lv_at hl 1 rfl) ?_
    refine lv_icmp_eq (tgt := 456) hx hb dL_law_451 (by decide) (fun _ => ?_) (fun c_451 => absurd c_451 (by decide))
    refine lv_iload hx hb dL_law_456 (lv_at hl 1 rfl) ?_
    refine lv_if_ne (tgt := 473) hx hb dL_law_458 (by decide) (fun _ => ?_) (fun c_458 => absurd c_458 (by decide))
    refine lv_goto (tgt := 1254) hx hb dL_law_473 (by decide) ?_
    have hP : va_P D vwCl (wX h d cA z c ++ ((o, .inl (cL, 1, .inr (.inl g))) :: wM hm d2 cA (1) z c)) H := hP.sub [8, 9, 10, 11, 12, 13, 14, 15, 16, 0, 1, 2, 3, 4, 5, 6, 7] rfl
    have hD : va_D (zA s.heap.size) (wX h d cA z c ++ ((o, .inl (cL, 1, .inr (.inl g))) :: wM hm d2 cA (1) z c)) := hD.sub [8, 9, 10, 11, 12, 13, 14, 15, 16, 0, 1, 2, 3, 4, 5, 6, 7] (by decide) rfl
    refine W.widen (k := cells + 1) (n := slots + 6) (by omega) (by omega) ?_
    exact kk z c (1) g hc hz _ _ hP hD hS ls (lv_sub hl [2, 3, 4, 5, 6] rfl)

set_option maxHeartbeats 8000000 in
set_option maxRecDepth 100000 in
theorem law_5 {p : Program} {l : Launch} {e : Env} {s : State} {m : MethodId} {below : List Frame} {meth : Method} {cd : Code} {b L : Nat} {xs : Nat → Int32} {D : va_G} {cA cL : ClassId} (C9 : zC9 p l s m meth cd b L xs D cA cL) {h hm o : Nat} {d d2 : Nat → Nat} {z : S7} {c : C5} {th : Int32} {g : Nat → Int64} (hc : okC c) (hz : okZ z) {i : Nat} (hi : i + 5 ≤ L) {cells slots : Nat} (hce : cells + 1 ≤ 1045) (hsl : slots + 6 ≤ 8314) (kk : zKK p l e s m below meth cd b D cA cL h hm o d d2 i cells slots) {H : Heap} {locs : List Loc} (hP : va_P D vwCl (zLW h d hm d2 o cA cL z c th g) H) (hD : va_D (zA s.heap.size) (zLW h d hm d2 o cA cL z c th g)) (hS : va_S (zA s.heap.size) s.heap H locs) {ls : Array Slot} (hl : lv_has ls 7 [(4, .int (nI i)), (3, .ref o), (2, .ref hm), (1, .ref h), (0, .ref b)]) : W p l e room_1 s m #[Value.ref b] below meth cd H locs cells slots (lw_Z below #[Value.ref b] s) (F0 m 476 ls []) := by
  obtain ⟨hst, hx, hb, hml, hown, hts, hX, hbl, hK, hE, hL⟩ := C9
  have hbA : ¬ zA s.heap.size b := Nat.not_le.mpr hbl
  have hf0 : cells + 0 ≤ room_1.cells ∧ slots + 0 ≤ room_1.slots := ⟨by show cells + 0 ≤ 1045; omega, by show slots + 0 ≤ 8314; omega⟩
  have hf1 : cells + 1 ≤ room_1.cells ∧ slots + 6 ≤ room_1.slots := ⟨hce, hsl⟩
  refine lv_aload_n hx hb dL_law_476 rfl (lv_at hl 3 rfl) ?_
  refine vp_callSi ((va_runV (As := []) (rest := []) ⟨hx, hb, hml, hown, hts⟩ (c_X0_rungs l D s.heap.size cA cL ((o, .inl (cL, 1, .inr (.inl g))) :: wM hm d2 cA (th) z c) h d z c hc) (cwV 0 hts gL_law_X0_rungs rfl rfl rfl (by decide +kernel) ⟨Nat.le_of_ble_eq_true rfl, Nat.le_of_ble_eq_true rfl⟩) ⟨zPre.blind, va_recv hK hP (ci := 0) (q0 := 0) rfl rfl, zPre.call (Nat.le_refl _) hP hD hK hE hS⟩ rfl rfl hl.1 rfl (lv_room (Nat.le_of_ble_eq_true rfl)) dL_law_477 hf0).run) (fun r_477 h_477 => ?_)
  have h_477 : r_477 = zRc c := h_477
  subst h_477
  refine lv_aload_n hx hb dL_law_480 rfl (lv_at hl 2 rfl) ?_
  have hP : va_P D vwCl (wM hm d2 cA (th) z c ++ (wX h d cA z c ++ [(o, .inl (cL, 1, .inr (.inl g)))])) H := hP.sub [9, 10, 11, 12, 13, 14, 15, 16, 0, 1, 2, 3, 4, 5, 6, 7, 8] rfl
  have hD : va_D (zA s.heap.size) (wM hm d2 cA (th) z c ++ (wX h d cA z c ++ [(o, .inl (cL, 1, .inr (.inl g)))])) := hD.sub [9, 10, 11, 12, 13, 14, 15, 16, 0, 1, 2, 3, 4, 5, 6, 7, 8] (by decide) rfl
  refine va_calli (va_runV (As := []) (rest := [.int (zRc c)]) ⟨hx, hb, hml, hown, hts⟩ (c_X1_rungs l D s.heap.size cA cL (wX h d cA z c ++ [(o, .inl (cL, 1, .inr (.inl g)))]) hm d2 (th) z c  hc) (cwV 0 hts gL_law_X1_rungs rfl rfl rfl (by decide +kernel) ⟨Nat.le_of_ble_eq_true rfl, Nat.le_of_ble_eq_true rfl⟩) ⟨zPre.blind, va_recv hK hP (ci := 1) (q0 := 0) rfl rfl, zPre.call (Nat.le_refl _) hP hD hK hE hS⟩ rfl rfl hl.1 rfl (lv_room (Nat.le_of_ble_eq_true rfl)) dL_law_481 hf0) hS (fun _ _ h9 => h9) (fun _ h9 => h9) (fun r_481 _ t H locs ht hvm h_481 hB hz1 hk1 hS => ?_)
  have h_481 : r_481 = (zRc c) := h_481
  subst h_481
  obtain ⟨hP, hD⟩ := hB
  rw [ht] at hP
  have hP : va_P D vwCl (wM hm d2 cA (0) z c ++ (wX h d cA z c ++ [(o, .inl (cL, 1, .inr (.inl g)))])) H := hP
  have hD : va_D (zA s.heap.size) (wM hm d2 cA (0) z c ++ (wX h d cA z c ++ [(o, .inl (cL, 1, .inr (.inl g)))])) := hD
  refine lv_icmp_eq (tgt := 1254) hx hb dL_law_484 (by decide) (fun c_484 => ?_) (fun c_484 => ?_)
  · have hP : va_P D vwCl (wX h d cA z c ++ ((o, .inl (cL, 1, .inr (.inl g))) :: wM hm d2 cA (0) z c)) H := hP.sub [8, 9, 10, 11, 12, 13, 14, 15, 16, 0, 1, 2, 3, 4, 5, 6, 7] rfl
    have hD : va_D (zA s.heap.size) (wX h d cA z c ++ ((o, .inl (cL, 1, .inr (.inl g))) :: wM hm d2 cA (0) z c)) := hD.sub [8, 9, 10, 11, 12, 13, 14, 15, 16, 0, 1, 2, 3, 4, 5, 6, 7] (by decide) rfl
    refine W.widen (k := cells + 1) (n := slots + 6) (by omega) (by omega) ?_
    exact kk z c (0) g hc hz _ _ hP hD hS ls (lv_sub hl [0, 1, 2, 3, 4] rfl)
  · exact absurd rfl c_484

set_option maxHeartbeats 8000000 in
set_option maxRecDepth 100000 in
theorem law_6 {p : Program} {l : Launch} {e : Env} {s : State} {m : MethodId} {below : List Frame} {meth : Method} {cd : Code} {b L : Nat} {xs : Nat → Int32} {D : va_G} {cA cL : ClassId} (C9 : zC9 p l s m meth cd b L xs D cA cL) {h hm o : Nat} {d d2 : Nat → Nat} {z : S7} {c : C5} {th : Int32} {g : Nat → Int64} (hc : okC c) (hz : okZ z) {i : Nat} (hi : i + 5 ≤ L) {cells slots : Nat} (hce : cells + 1 ≤ 1045) (hsl : slots + 6 ≤ 8314) (kk : zKK p l e s m below meth cd b D cA cL h hm o d d2 i cells slots) {H : Heap} {locs : List Loc} (hP : va_P D vwCl (zLW h d hm d2 o cA cL z c th g) H) (hD : va_D (zA s.heap.size) (zLW h d hm d2 o cA cL z c th g)) (hS : va_S (zA s.heap.size) s.heap H locs) {ls : Array Slot} (hl : lv_has ls 7 [(4, .int (nI i)), (3, .ref o), (2, .ref hm), (1, .ref h), (0, .ref b)]) : W p l e room_1 s m #[Value.ref b] below meth cd H locs cells slots (lw_Z below #[Value.ref b] s) (F0 m 489 ls []) := by
  obtain ⟨hst, hx, hb, hml, hown, hts, hX, hbl, hK, hE, hL⟩ := C9
  have hbA : ¬ zA s.heap.size b := Nat.not_le.mpr hbl
  have hf0 : cells + 0 ≤ room_1.cells ∧ slots + 0 ≤ room_1.slots := ⟨by show cells + 0 ≤ 1045; omega, by show slots + 0 ≤ 8314; omega⟩
  have hf1 : cells + 1 ≤ room_1.cells ∧ slots + 6 ≤ room_1.slots := ⟨hce, hsl⟩
  by_cases hp : zp (xs (nI (i + 1)).toNatClampNeg)
  · refine lv_aload_n hx hb dL_law_489 rfl (lv_at hl 3 rfl) ?_
    refine lv_aload_n hx hb dL_law_490 rfl (lv_at hl 4 rfl) ?_
    refine lv_iload hx hb dL_law_491 (lv_at hl 0 rfl) ?_
    refine lv_iconst (v := 1) hx hb dL_law_493 (by decide) ?_
    refine lv_iadd hx hb dL_law_494 ?_
    rw [show (((nI i) + 1) : Int32) = (nI (i + 1)) from (nI_add i 1)]
    refine va_sld hx hb hX hbl hbA hS (vp_in_nI (by omega) (by omega)) dL_law_495 ?_
    refine lv_aload_n hx hb dL_law_496 rfl (lv_at hl 1 rfl) ?_
    refine va_calli (vx_runSW (As := [.ref h, .int (xs (nI (i + 1)).toNatClampNeg), .ref o]) (rest := []) ⟨hx, hb, hml, hown, hts⟩ (c_L_nearest_v l D s.heap.size cA cL (wM hm d2 cA (th) z c) h d z c o g (xs (nI (i + 1)).toNatClampNeg) hc hp) (vx_cwSW 3 hts gL_law_L_nearest rfl rfl rfl (by decide +kernel) ⟨Nat.le_of_ble_eq_true rfl, Nat.le_of_ble_eq_true rfl⟩) ⟨zPre.blind, zPre.call (Nat.le_refl _) hP hD hK hE hS⟩ rfl rfl hl.1 rfl (lv_room (Nat.le_of_ble_eq_true rfl)) dL_law_497 hf0) hS (fun _ _ h9 => h9) (fun _ h9 => h9) (fun r_497 _ t H locs ht hvm h_497 hB hz1 hk1 hS => ?_)
    have h_497 : r_497 = 0 := h_497
    subst h_497
    obtain ⟨hP, hD⟩ := hB
    rw [ht] at hP
    have hP : va_P D vwCl (wX h d cA z c ++ ((o, .inl (cL, 1, .inr (.inl (vp_updL g (0 : Int32).toNatClampNeg (zNear c (xs (nI (i + 1)).toNatClampNeg)).toInt64)))) :: wM hm d2 cA (th) z c)) H := hP
    have hD : va_D (zA s.heap.size) (wX h d cA z c ++ ((o, .inl (cL, 1, .inr (.inl (vp_updL g (0 : Int32).toNatClampNeg (zNear c (xs (nI (i + 1)).toNatClampNeg)).toInt64)))) :: wM hm d2 cA (th) z c)) := hD
    refine lv_istore (lv' := [(5, .int 0), (4, .int (nI i)), (3, .ref o), (2, .ref hm), (1, .ref h), (0, .ref b)]) hx hb dL_law_500 hl (by decide) rfl (fun ls hl => ?_)
    refine lv_aload_n hx hb dL_law_502 rfl (lv_at hl 3 rfl) ?_
    refine lv_aload_n hx hb dL_law_503 rfl (lv_at hl 5 rfl) ?_
    refine lv_iload hx hb dL_law_504 (lv_at hl 1 rfl) ?_
    refine lv_iconst (v := 1) hx hb dL_law_506 (by decide) ?_
    refine lv_iadd hx hb dL_law_507 ?_
    rw [show (((nI i) + 1) : Int32) = (nI (i + 1)) from (nI_add i 1)]
    refine va_sld hx hb hX hbl hbA hS (vp_in_nI (by omega) (by omega)) dL_law_508 ?_
    have hP : va_P D vwCl (wM hm d2 cA (th) z c ++ (wX h d cA z c ++ [(o, .inl (cL, 1, .inr (.inl (vp_updL g (0 : Int32).toNatClampNeg (zNear c (xs (nI (i + 1)).toNatClampNeg)).toInt64))))])) H := hP.sub [9, 10, 11, 12, 13, 14, 15, 16, 0, 1, 2, 3, 4, 5, 6, 7, 8] rfl
    have hD : va_D (zA s.heap.size) (wM hm d2 cA (th) z c ++ (wX h d cA z c ++ [(o, .inl (cL, 1, .inr (.inl (vp_updL g (0 : Int32).toNatClampNeg (zNear c (xs (nI (i + 1)).toNatClampNeg)).toInt64))))])) := hD.sub [9, 10, 11, 12, 13, 14, 15, 16, 0, 1, 2, 3, 4, 5, 6, 7, 8] (by decide) rfl
    refine va_calli (va_runV (As := [.int (xs (nI (i + 1)).toNatClampNeg)]) (rest := []) ⟨hx, hb, hml, hown, hts⟩ (c_X1_nearest_v l D s.heap.size cA cL (wX h d cA z c ++ [(o, .inl (cL, 1, .inr (.inl (vp_updL g (0 : Int32).toNatClampNeg (zNear c (xs (nI (i + 1)).toNatClampNeg)).toInt64))))]) hm d2 (th) z c (xs (nI (i + 1)).toNatClampNeg) hc hp) (cwV 1 hts gL_law_X1_nearest rfl rfl rfl (by decide +kernel) ⟨Nat.le_of_ble_eq_true rfl, Nat.le_of_ble_eq_true rfl⟩) ⟨zPre.blind, va_recv hK hP (ci := 1) (q0 := 0) rfl rfl, zPre.call (Nat.le_refl _) hP hD hK hE hS⟩ rfl rfl hl.1 rfl (lv_room (Nat.le_of_ble_eq_true rfl)) dL_law_509 hf0) hS (fun _ _ h9 => h9) (fun _ h9 => h9) (fun r_509 _ t H locs ht hvm h_509 hB hz1 hk1 hS => ?_)
    have h_509 : r_509 = (zNear c (xs (nI (i + 1)).toNatClampNeg)) := h_509
    subst h_509
    obtain ⟨hP, hD⟩ := hB
    rw [ht] at hP
    have hP : va_P D vwCl (wM hm d2 cA (0) z c ++ (wX h d cA z c ++ [(o, .inl (cL, 1, .inr (.inl (vp_updL g (0 : Int32).toNatClampNeg (zNear c (xs (nI (i + 1)).toNatClampNeg)).toInt64))))])) H := hP
    have hD : va_D (zA s.heap.size) (wM hm d2 cA (0) z c ++ (wX h d cA z c ++ [(o, .inl (cL, 1, .inr (.inl (vp_updL g (0 : Int32).toNatClampNeg (zNear c (xs (nI (i + 1)).toNatClampNeg)).toInt64))))])) := hD
    refine lv_istore (lv' := [(6, .int (zNear c (xs (nI (i + 1)).toNatClampNeg))), (5, .int 0), (4, .int (nI i)), (3, .ref o), (2, .ref hm), (1, .ref h), (0, .ref b)]) hx hb dL_law_512 hl (by decide) rfl (fun ls hl => ?_)
    refine lv_aload_n hx hb dL_law_514 rfl (lv_at hl 4 rfl) ?_
    refine vp_callSi ((va_runV (As := []) (rest := []) ⟨hx, hb, hml, hown, hts⟩ (c_X1_thrown l D s.heap.size cA cL (wX h d cA z c ++ [(o, .inl (cL, 1, .inr (.inl (vp_updL g (0 : Int32).toNatClampNeg (zNear c (xs (nI (i + 1)).toNatClampNeg)).toInt64))))]) hm d2 (0) z c  ) (cwV 0 hts gL_law_X1_thrown rfl rfl rfl (by decide +kernel) ⟨Nat.le_of_ble_eq_true rfl, Nat.le_of_ble_eq_true rfl⟩) ⟨zPre.blind, va_recv hK hP (ci := 1) (q0 := 0) rfl rfl, zPre.call (Nat.le_refl _) hP hD hK hE hS⟩ rfl rfl hl.1 rfl (lv_room (Nat.le_of_ble_eq_true rfl)) dL_law_515 hf0).run) (fun r_515 h_515 => ?_)
    have h_515 : r_515 = 0 := h_515
    subst h_515
    refine lv_iload hx hb dL_law_518 (lv_at hl 1 rfl) ?_
    refine lv_icmp_eq (tgt := 525) hx hb dL_law_520 (by decide) (fun _ => ?_) (fun c_520 => absurd c_520 (by decide))
    refine lv_iload hx hb dL_law_525 (lv_at hl 1 rfl) ?_
    refine lv_if_ne (tgt := 542) hx hb dL_law_527 (by decide) (fun c_527 => absurd c_527 (by decide)) (fun _ => ?_)
    refine lv_aload_n hx hb dL_law_530 rfl (lv_at hl 3 rfl) ?_
    refine lv_iconst (v := 0) hx hb dL_law_531 (by decide) ?_
    have hP : va_P D vwCl (wX h d cA z c ++ ((o, .inl (cL, 1, .inr (.inl (vp_updL g (0 : Int32).toNatClampNeg (zNear c (xs (nI (i + 1)).toNatClampNeg)).toInt64)))) :: wM hm d2 cA (0) z c)) H := hP.sub [8, 9, 10, 11, 12, 13, 14, 15, 16, 0, 1, 2, 3, 4, 5, 6, 7] rfl
    have hD : va_D (zA s.heap.size) (wX h d cA z c ++ ((o, .inl (cL, 1, .inr (.inl (vp_updL g (0 : Int32).toNatClampNeg (zNear c (xs (nI (i + 1)).toNatClampNeg)).toInt64)))) :: wM hm d2 cA (0) z c)) := hD.sub [8, 9, 10, 11, 12, 13, 14, 15, 16, 0, 1, 2, 3, 4, 5, 6, 7] (by decide) rfl
    refine va_lald hx hb hK hP 8 1 rfl rfl (vp_in_nI (n := 0) (by decide) (by decide)) dL_law_532 ?_
    rw [show ((vp_updL g (0 : Int32).toNatClampNeg (zNear c (xs (nI (i + 1)).toNatClampNeg)).toInt64) (0 : Int32).toNatClampNeg : Int64) = (zNear c (xs (nI (i + 1)).toNatClampNeg)).toInt64 from pk_uLs]
    refine lv_iload hx hb dL_law_533 (lv_at hl 0 rfl) ?_
    refine lv_i2l hx hb dL_law_535 rfl ?_
    refine W.lcmp hx hb dL_law_536 ?_
    rw [show lg_cmp ((zNear c (xs (nI (i + 1)).toNatClampNeg)).toInt64) ((zNear c (xs (nI (i + 1)).toNatClampNeg)).toInt64) = 0 from zcmp _]
    refine lv_if_eq (tgt := 542) hx hb dL_law_537 (by decide) (fun _ => ?_) (fun c_537 => absurd c_537 (by decide))
    refine lv_goto (tgt := 1254) hx hb dL_law_542 (by decide) ?_
    refine W.widen (k := cells + 1) (n := slots + 6) (by omega) (by omega) ?_
    exact kk z c (0) (vp_updL g (0 : Int32).toNatClampNeg (zNear c (xs (nI (i + 1)).toNatClampNeg)).toInt64) hc hz _ _ hP hD hS ls (lv_sub hl [2, 3, 4, 5, 6] rfl)
  · refine lv_aload_n hx hb dL_law_489 rfl (lv_at hl 3 rfl) ?_
    refine lv_aload_n hx hb dL_law_490 rfl (lv_at hl 4 rfl) ?_
    refine lv_iload hx hb dL_law_491 (lv_at hl 0 rfl) ?_
    refine lv_iconst (v := 1) hx hb dL_law_493 (by decide) ?_
    refine lv_iadd hx hb dL_law_494 ?_
    rw [show (((nI i) + 1) : Int32) = (nI (i + 1)) from (nI_add i 1)]
    refine va_sld hx hb hX hbl hbA hS (vp_in_nI (by omega) (by omega)) dL_law_495 ?_
    refine lv_aload_n hx hb dL_law_496 rfl (lv_at hl 1 rfl) ?_
    refine va_calli (vx_runSW (As := [.ref h, .int (xs (nI (i + 1)).toNatClampNeg), .ref o]) (rest := []) ⟨hx, hb, hml, hown, hts⟩ (c_L_nearest_1 l hst D s.heap.size cA cL (wM hm d2 cA (th) z c) h d z c o g (xs (nI (i + 1)).toNatClampNeg) hp) (vx_cwSW 3 hts gL_law_L_nearest rfl rfl rfl (by decide +kernel) ⟨Nat.le_of_ble_eq_true rfl, Nat.le_of_ble_eq_true rfl⟩) ⟨zPre.blind, zPre.call (Nat.le_refl _) hP hD hK hE hS⟩ rfl rfl hl.1 rfl (lv_room (Nat.le_of_ble_eq_true rfl)) dL_law_497 hf1) hS (fun _ _ h9 => h9) (fun _ h9 => h9) (fun r_497 _ t H locs ht hvm h_497 hB hz1 hk1 hS => ?_)
    have h_497 : r_497 = 1 := h_497
    subst h_497
    obtain ⟨hP, hD⟩ := hB
    rw [ht] at hP
    have hP : va_P D vwCl (wX h d cA z c ++ ((o, .inl (cL, 1, .inr (.inl g))) :: wM hm d2 cA (th) z c)) H := hP
    have hD : va_D (zA s.heap.size) (wX h d cA z c ++ ((o, .inl (cL, 1, .inr (.inl g))) :: wM hm d2 cA (th) z c)) := hD
    refine lv_istore (lv' := [(5, .int 1), (4, .int (nI i)), (3, .ref o), (2, .ref hm), (1, .ref h), (0, .ref b)]) hx hb dL_law_500 hl (by decide) rfl (fun ls hl => ?_)
    refine lv_aload_n hx hb dL_law_502 rfl (lv_at hl 3 rfl) ?_
    refine lv_aload_n hx hb dL_law_503 rfl (lv_at hl 5 rfl) ?_
    refine lv_iload hx hb dL_law_504 (lv_at hl 1 rfl) ?_
    refine lv_iconst (v := 1) hx hb dL_law_506 (by decide) ?_
    refine lv_iadd hx hb dL_law_507 ?_
    rw [show (((nI i) + 1) : Int32) = (nI (i + 1)) from (nI_add i 1)]
    refine va_sld hx hb hX hbl hbA hS (vp_in_nI (by omega) (by omega)) dL_law_508 ?_
    have hP : va_P D vwCl (wM hm d2 cA (th) z c ++ (wX h d cA z c ++ [(o, .inl (cL, 1, .inr (.inl g)))])) H := hP.sub [9, 10, 11, 12, 13, 14, 15, 16, 0, 1, 2, 3, 4, 5, 6, 7, 8] rfl
    have hD : va_D (zA s.heap.size) (wM hm d2 cA (th) z c ++ (wX h d cA z c ++ [(o, .inl (cL, 1, .inr (.inl g)))])) := hD.sub [9, 10, 11, 12, 13, 14, 15, 16, 0, 1, 2, 3, 4, 5, 6, 7, 8] (by decide) rfl
    refine va_calli (va_runV (As := [.int (xs (nI (i + 1)).toNatClampNeg)]) (rest := []) ⟨hx, hb, hml, hown, hts⟩ (c_X1_nearest_1 l D s.heap.size cA cL (wX h d cA z c ++ [(o, .inl (cL, 1, .inr (.inl g)))]) hm d2 (th) z c (xs (nI (i + 1)).toNatClampNeg) hp) (cwV 1 hts gL_law_X1_nearest rfl rfl rfl (by decide +kernel) ⟨Nat.le_of_ble_eq_true rfl, Nat.le_of_ble_eq_true rfl⟩) ⟨zPre.blind, va_recv hK hP (ci := 1) (q0 := 0) rfl rfl, zPre.call (Nat.le_refl _) hP hD hK hE hS⟩ rfl rfl hl.1 rfl (lv_room (Nat.le_of_ble_eq_true rfl)) dL_law_509 hf1) hS (fun _ _ h9 => h9) (fun _ h9 => h9) (fun r_509 _ t H locs ht hvm h_509 hB hz1 hk1 hS => ?_)
    have h_509 : r_509 = (0) := h_509
    subst h_509
    obtain ⟨hP, hD⟩ := hB
    rw [ht] at hP
    have hP : va_P D vwCl (wM hm d2 cA (1) z c ++ (wX h d cA z c ++ [(o, .inl (cL, 1, .inr (.inl g)))])) H := hP
    have hD : va_D (zA s.heap.size) (wM hm d2 cA (1) z c ++ (wX h d cA z c ++ [(o, .inl (cL, 1, .inr (.inl g)))])) := hD
    refine lv_istore (lv' := [(6, .int 0), (5, .int 1), (4, .int (nI i)), (3, .ref o), (2, .ref hm), (1, .ref h), (0, .ref b)]) hx hb dL_law_512 hl (by decide) rfl (fun ls hl => ?_)
    refine lv_aload_n hx hb dL_law_514 rfl (lv_at hl 4 rfl) ?_
    refine vp_callSi ((va_runV (As := []) (rest := []) ⟨hx, hb, hml, hown, hts⟩ (c_X1_thrown l D s.heap.size cA cL (wX h d cA z c ++ [(o, .inl (cL, 1, .inr (.inl g)))]) hm d2 (1) z c  ) (cwV 0 hts gL_law_X1_thrown rfl rfl rfl (by decide +kernel) ⟨Nat.le_of_ble_eq_true rfl, Nat.le_of_ble_eq_true rfl⟩) ⟨zPre.blind, va_recv hK hP (ci := 1) (q0 := 0) rfl rfl, zPre.call (Nat.le_refl _) hP hD hK hE hS⟩ rfl rfl hl.1 rfl (lv_room (Nat.le_of_ble_eq_true rfl)) dL_law_515 hf1).run) (fun r_515 h_515 => ?_)
    have h_515 : r_515 = 1 := h_515
    subst h_515
    refine lv_iload hx hb dL_law_518 (lv_at hl 1 rfl) ?_
    refine lv_icmp_eq (tgt := 525) hx hb dL_law_520 (by decide) (fun _ => ?_) (fun c_520 => absurd c_520 (by decide))
    refine lv_iload hx hb dL_law_525 (lv_at hl 1 rfl) ?_
    refine lv_if_ne (tgt := 542) hx hb dL_law_527 (by decide) (fun _ => ?_) (fun c_527 => absurd c_527 (by decide))
    refine lv_goto (tgt := 1254) hx hb dL_law_542 (by decide) ?_
    have hP : va_P D vwCl (wX h d cA z c ++ ((o, .inl (cL, 1, .inr (.inl g))) :: wM hm d2 cA (1) z c)) H := hP.sub [8, 9, 10, 11, 12, 13, 14, 15, 16, 0, 1, 2, 3, 4, 5, 6, 7] rfl
    have hD : va_D (zA s.heap.size) (wX h d cA z c ++ ((o, .inl (cL, 1, .inr (.inl g))) :: wM hm d2 cA (1) z c)) := hD.sub [8, 9, 10, 11, 12, 13, 14, 15, 16, 0, 1, 2, 3, 4, 5, 6, 7] (by decide) rfl
    refine W.widen (k := cells + 1) (n := slots + 6) (by omega) (by omega) ?_
    exact kk z c (1) g hc hz _ _ hP hD hS ls (lv_sub hl [2, 3, 4, 5, 6] rfl)

set_option maxHeartbeats 8000000 in
set_option maxRecDepth 100000 in
theorem law_7 {p : Program} {l : Launch} {e : Env} {s : State} {m : MethodId} {below : List Frame} {meth : Method} {cd : Code} {b L : Nat} {xs : Nat → Int32} {D : va_G} {cA cL : ClassId} (C9 : zC9 p l s m meth cd b L xs D cA cL) {h hm o : Nat} {d d2 : Nat → Nat} {z : S7} {c : C5} {th : Int32} {g : Nat → Int64} (hc : okC c) (hz : okZ z) {i : Nat} (hi : i + 5 ≤ L) {cells slots : Nat} (hce : cells + 1 ≤ 1045) (hsl : slots + 6 ≤ 8314) (kk : zKK p l e s m below meth cd b D cA cL h hm o d d2 i cells slots) {H : Heap} {locs : List Loc} (hP : va_P D vwCl (zLW h d hm d2 o cA cL z c th g) H) (hD : va_D (zA s.heap.size) (zLW h d hm d2 o cA cL z c th g)) (hS : va_S (zA s.heap.size) s.heap H locs) {ls : Array Slot} (hl : lv_has ls 7 [(4, .int (nI i)), (3, .ref o), (2, .ref hm), (1, .ref h), (0, .ref b)]) : W p l e room_1 s m #[Value.ref b] below meth cd H locs cells slots (lw_Z below #[Value.ref b] s) (F0 m 545 ls []) := by
  obtain ⟨hst, hx, hb, hml, hown, hts, hX, hbl, hK, hE, hL⟩ := C9
  have hbA : ¬ zA s.heap.size b := Nat.not_le.mpr hbl
  have hf0 : cells + 0 ≤ room_1.cells ∧ slots + 0 ≤ room_1.slots := ⟨by show cells + 0 ≤ 1045; omega, by show slots + 0 ≤ 8314; omega⟩
  have hf1 : cells + 1 ≤ room_1.cells ∧ slots + 6 ≤ room_1.slots := ⟨hce, hsl⟩
  by_cases hv : ¬ zRg c (xs (nI (i + 1)).toNatClampNeg) < 0
  · refine lv_aload_n hx hb dL_law_545 rfl (lv_at hl 3 rfl) ?_
    refine lv_aload_n hx hb dL_law_546 rfl (lv_at hl 4 rfl) ?_
    refine lv_iload hx hb dL_law_547 (lv_at hl 0 rfl) ?_
    refine lv_iconst (v := 1) hx hb dL_law_549 (by decide) ?_
    refine lv_iadd hx hb dL_law_550 ?_
    rw [show (((nI i) + 1) : Int32) = (nI (i + 1)) from (nI_add i 1)]
    refine va_sld hx hb hX hbl hbA hS (vp_in_nI (by omega) (by omega)) dL_law_551 ?_
    refine lv_aload_n hx hb dL_law_552 rfl (lv_at hl 1 rfl) ?_
    refine va_calli (vx_runSW (As := [.ref h, .int (xs (nI (i + 1)).toNatClampNeg), .ref o]) (rest := []) ⟨hx, hb, hml, hown, hts⟩ (c_L_rung_v l D s.heap.size cA cL (wM hm d2 cA (th) z c) h d z c o g (xs (nI (i + 1)).toNatClampNeg) hc hv) (vx_cwSW 3 hts gL_law_L_rung rfl rfl rfl (by decide +kernel) ⟨Nat.le_of_ble_eq_true rfl, Nat.le_of_ble_eq_true rfl⟩) ⟨zPre.blind, zPre.call (Nat.le_refl _) hP hD hK hE hS⟩ rfl rfl hl.1 rfl (lv_room (Nat.le_of_ble_eq_true rfl)) dL_law_553 hf0) hS (fun _ _ h9 => h9) (fun _ h9 => h9) (fun r_553 _ t H locs ht hvm h_553 hB hz1 hk1 hS => ?_)
    have h_553 : r_553 = 0 := h_553
    subst h_553
    obtain ⟨hP, hD⟩ := hB
    rw [ht] at hP
    have hP : va_P D vwCl (wX h d cA z c ++ ((o, .inl (cL, 1, .inr (.inl (vp_updL g (0 : Int32).toNatClampNeg (zRg c (xs (nI (i + 1)).toNatClampNeg)).toInt64)))) :: wM hm d2 cA (th) z c)) H := hP
    have hD : va_D (zA s.heap.size) (wX h d cA z c ++ ((o, .inl (cL, 1, .inr (.inl (vp_updL g (0 : Int32).toNatClampNeg (zRg c (xs (nI (i + 1)).toNatClampNeg)).toInt64)))) :: wM hm d2 cA (th) z c)) := hD
    refine lv_istore (lv' := [(5, .int 0), (4, .int (nI i)), (3, .ref o), (2, .ref hm), (1, .ref h), (0, .ref b)]) hx hb dL_law_556 hl (by decide) rfl (fun ls hl => ?_)
    refine lv_aload_n hx hb dL_law_558 rfl (lv_at hl 3 rfl) ?_
    refine lv_aload_n hx hb dL_law_559 rfl (lv_at hl 5 rfl) ?_
    refine lv_iload hx hb dL_law_560 (lv_at hl 1 rfl) ?_
    refine lv_iconst (v := 1) hx hb dL_law_562 (by decide) ?_
    refine lv_iadd hx hb dL_law_563 ?_
    rw [show (((nI i) + 1) : Int32) = (nI (i + 1)) from (nI_add i 1)]
    refine va_sld hx hb hX hbl hbA hS (vp_in_nI (by omega) (by omega)) dL_law_564 ?_
    have hP : va_P D vwCl (wM hm d2 cA (th) z c ++ (wX h d cA z c ++ [(o, .inl (cL, 1, .inr (.inl (vp_updL g (0 : Int32).toNatClampNeg (zRg c (xs (nI (i + 1)).toNatClampNeg)).toInt64))))])) H := hP.sub [9, 10, 11, 12, 13, 14, 15, 16, 0, 1, 2, 3, 4, 5, 6, 7, 8] rfl
    have hD : va_D (zA s.heap.size) (wM hm d2 cA (th) z c ++ (wX h d cA z c ++ [(o, .inl (cL, 1, .inr (.inl (vp_updL g (0 : Int32).toNatClampNeg (zRg c (xs (nI (i + 1)).toNatClampNeg)).toInt64))))])) := hD.sub [9, 10, 11, 12, 13, 14, 15, 16, 0, 1, 2, 3, 4, 5, 6, 7, 8] (by decide) rfl
    refine va_calli (va_runV (As := [.int (xs (nI (i + 1)).toNatClampNeg)]) (rest := []) ⟨hx, hb, hml, hown, hts⟩ (c_X1_rung_v l D s.heap.size cA cL (wX h d cA z c ++ [(o, .inl (cL, 1, .inr (.inl (vp_updL g (0 : Int32).toNatClampNeg (zRg c (xs (nI (i + 1)).toNatClampNeg)).toInt64))))]) hm d2 (th) z c (xs (nI (i + 1)).toNatClampNeg) hc hv) (cwV 1 hts gL_law_X1_rung rfl rfl rfl (by decide +kernel) ⟨Nat.le_of_ble_eq_true rfl, Nat.le_of_ble_eq_true rfl⟩) ⟨zPre.blind, va_recv hK hP (ci := 1) (q0 := 0) rfl rfl, zPre.call (Nat.le_refl _) hP hD hK hE hS⟩ rfl rfl hl.1 rfl (lv_room (Nat.le_of_ble_eq_true rfl)) dL_law_565 hf0) hS (fun _ _ h9 => h9) (fun _ h9 => h9) (fun r_565 _ t H locs ht hvm h_565 hB hz1 hk1 hS => ?_)
    have h_565 : r_565 = (zRg c (xs (nI (i + 1)).toNatClampNeg)) := h_565
    subst h_565
    obtain ⟨hP, hD⟩ := hB
    rw [ht] at hP
    have hP : va_P D vwCl (wM hm d2 cA (0) z c ++ (wX h d cA z c ++ [(o, .inl (cL, 1, .inr (.inl (vp_updL g (0 : Int32).toNatClampNeg (zRg c (xs (nI (i + 1)).toNatClampNeg)).toInt64))))])) H := hP
    have hD : va_D (zA s.heap.size) (wM hm d2 cA (0) z c ++ (wX h d cA z c ++ [(o, .inl (cL, 1, .inr (.inl (vp_updL g (0 : Int32).toNatClampNeg (zRg c (xs (nI (i + 1)).toNatClampNeg)).toInt64))))])) := hD
    refine lv_istore (lv' := [(6, .int (zRg c (xs (nI (i + 1)).toNatClampNeg))), (5, .int 0), (4, .int (nI i)), (3, .ref o), (2, .ref hm), (1, .ref h), (0, .ref b)]) hx hb dL_law_568 hl (by decide) rfl (fun ls hl => ?_)
    refine lv_aload_n hx hb dL_law_570 rfl (lv_at hl 4 rfl) ?_
    refine vp_callSi ((va_runV (As := []) (rest := []) ⟨hx, hb, hml, hown, hts⟩ (c_X1_thrown l D s.heap.size cA cL (wX h d cA z c ++ [(o, .inl (cL, 1, .inr (.inl (vp_updL g (0 : Int32).toNatClampNeg (zRg c (xs (nI (i + 1)).toNatClampNeg)).toInt64))))]) hm d2 (0) z c  ) (cwV 0 hts gL_law_X1_thrown rfl rfl rfl (by decide +kernel) ⟨Nat.le_of_ble_eq_true rfl, Nat.le_of_ble_eq_true rfl⟩) ⟨zPre.blind, va_recv hK hP (ci := 1) (q0 := 0) rfl rfl, zPre.call (Nat.le_refl _) hP hD hK hE hS⟩ rfl rfl hl.1 rfl (lv_room (Nat.le_of_ble_eq_true rfl)) dL_law_571 hf0).run) (fun r_571 h_571 => ?_)
    have h_571 : r_571 = 0 := h_571
    subst h_571
    refine lv_iload hx hb dL_law_574 (lv_at hl 1 rfl) ?_
    refine lv_icmp_eq (tgt := 581) hx hb dL_law_576 (by decide) (fun _ => ?_) (fun c_576 => absurd c_576 (by decide))
    refine lv_iload hx hb dL_law_581 (lv_at hl 1 rfl) ?_
    refine lv_if_ne (tgt := 598) hx hb dL_law_583 (by decide) (fun c_583 => absurd c_583 (by decide)) (fun _ => ?_)
    refine lv_aload_n hx hb dL_law_586 rfl (lv_at hl 3 rfl) ?_
    refine lv_iconst (v := 0) hx hb dL_law_587 (by decide) ?_
    have hP : va_P D vwCl (wX h d cA z c ++ ((o, .inl (cL, 1, .inr (.inl (vp_updL g (0 : Int32).toNatClampNeg (zRg c (xs (nI (i + 1)).toNatClampNeg)).toInt64)))) :: wM hm d2 cA (0) z c)) H := hP.sub [8, 9, 10, 11, 12, 13, 14, 15, 16, 0, 1, 2, 3, 4, 5, 6, 7] rfl
    have hD : va_D (zA s.heap.size) (wX h d cA z c ++ ((o, .inl (cL, 1, .inr (.inl (vp_updL g (0 : Int32).toNatClampNeg (zRg c (xs (nI (i + 1)).toNatClampNeg)).toInt64)))) :: wM hm d2 cA (0) z c)) := hD.sub [8, 9, 10, 11, 12, 13, 14, 15, 16, 0, 1, 2, 3, 4, 5, 6, 7] (by decide) rfl
    refine va_lald hx hb hK hP 8 1 rfl rfl (vp_in_nI (n := 0) (by decide) (by decide)) dL_law_588 ?_
    rw [show ((vp_updL g (0 : Int32).toNatClampNeg (zRg c (xs (nI (i + 1)).toNatClampNeg)).toInt64) (0 : Int32).toNatClampNeg : Int64) = (zRg c (xs (nI (i + 1)).toNatClampNeg)).toInt64 from pk_uLs]
    refine lv_iload hx hb dL_law_589 (lv_at hl 0 rfl) ?_
    refine lv_i2l hx hb dL_law_591 rfl ?_
    refine W.lcmp hx hb dL_law_592 ?_
    rw [show lg_cmp ((zRg c (xs (nI (i + 1)).toNatClampNeg)).toInt64) ((zRg c (xs (nI (i + 1)).toNatClampNeg)).toInt64) = 0 from zcmp _]
    refine lv_if_eq (tgt := 598) hx hb dL_law_593 (by decide) (fun _ => ?_) (fun c_593 => absurd c_593 (by decide))
    refine lv_goto (tgt := 1254) hx hb dL_law_598 (by decide) ?_
    refine W.widen (k := cells + 1) (n := slots + 6) (by omega) (by omega) ?_
    exact kk z c (0) (vp_updL g (0 : Int32).toNatClampNeg (zRg c (xs (nI (i + 1)).toNatClampNeg)).toInt64) hc hz _ _ hP hD hS ls (lv_sub hl [2, 3, 4, 5, 6] rfl)
  · refine lv_aload_n hx hb dL_law_545 rfl (lv_at hl 3 rfl) ?_
    refine lv_aload_n hx hb dL_law_546 rfl (lv_at hl 4 rfl) ?_
    refine lv_iload hx hb dL_law_547 (lv_at hl 0 rfl) ?_
    refine lv_iconst (v := 1) hx hb dL_law_549 (by decide) ?_
    refine lv_iadd hx hb dL_law_550 ?_
    rw [show (((nI i) + 1) : Int32) = (nI (i + 1)) from (nI_add i 1)]
    refine va_sld hx hb hX hbl hbA hS (vp_in_nI (by omega) (by omega)) dL_law_551 ?_
    refine lv_aload_n hx hb dL_law_552 rfl (lv_at hl 1 rfl) ?_
    refine va_calli (vx_runSW (As := [.ref h, .int (xs (nI (i + 1)).toNatClampNeg), .ref o]) (rest := []) ⟨hx, hb, hml, hown, hts⟩ (c_L_rung_1 l hst D s.heap.size cA cL (wM hm d2 cA (th) z c) h d z c o g (xs (nI (i + 1)).toNatClampNeg) hc (Decidable.not_not.mp hv)) (vx_cwSW 3 hts gL_law_L_rung rfl rfl rfl (by decide +kernel) ⟨Nat.le_of_ble_eq_true rfl, Nat.le_of_ble_eq_true rfl⟩) ⟨zPre.blind, zPre.call (Nat.le_refl _) hP hD hK hE hS⟩ rfl rfl hl.1 rfl (lv_room (Nat.le_of_ble_eq_true rfl)) dL_law_553 hf1) hS (fun _ _ h9 => h9) (fun _ h9 => h9) (fun r_553 _ t H locs ht hvm h_553 hB hz1 hk1 hS => ?_)
    have h_553 : r_553 = 1 := h_553
    subst h_553
    obtain ⟨hP, hD⟩ := hB
    rw [ht] at hP
    have hP : va_P D vwCl (wX h d cA z c ++ ((o, .inl (cL, 1, .inr (.inl g))) :: wM hm d2 cA (th) z c)) H := hP
    have hD : va_D (zA s.heap.size) (wX h d cA z c ++ ((o, .inl (cL, 1, .inr (.inl g))) :: wM hm d2 cA (th) z c)) := hD
    refine lv_istore (lv' := [(5, .int 1), (4, .int (nI i)), (3, .ref o), (2, .ref hm), (1, .ref h), (0, .ref b)]) hx hb dL_law_556 hl (by decide) rfl (fun ls hl => ?_)
    refine lv_aload_n hx hb dL_law_558 rfl (lv_at hl 3 rfl) ?_
    refine lv_aload_n hx hb dL_law_559 rfl (lv_at hl 5 rfl) ?_
    refine lv_iload hx hb dL_law_560 (lv_at hl 1 rfl) ?_
    refine lv_iconst (v := 1) hx hb dL_law_562 (by decide) ?_
    refine lv_iadd hx hb dL_law_563 ?_
    rw [show (((nI i) + 1) : Int32) = (nI (i + 1)) from (nI_add i 1)]
    refine va_sld hx hb hX hbl hbA hS (vp_in_nI (by omega) (by omega)) dL_law_564 ?_
    have hP : va_P D vwCl (wM hm d2 cA (th) z c ++ (wX h d cA z c ++ [(o, .inl (cL, 1, .inr (.inl g)))])) H := hP.sub [9, 10, 11, 12, 13, 14, 15, 16, 0, 1, 2, 3, 4, 5, 6, 7, 8] rfl
    have hD : va_D (zA s.heap.size) (wM hm d2 cA (th) z c ++ (wX h d cA z c ++ [(o, .inl (cL, 1, .inr (.inl g)))])) := hD.sub [9, 10, 11, 12, 13, 14, 15, 16, 0, 1, 2, 3, 4, 5, 6, 7, 8] (by decide) rfl
    refine va_calli (va_runV (As := [.int (xs (nI (i + 1)).toNatClampNeg)]) (rest := []) ⟨hx, hb, hml, hown, hts⟩ (c_X1_rung_1 l D s.heap.size cA cL (wX h d cA z c ++ [(o, .inl (cL, 1, .inr (.inl g)))]) hm d2 (th) z c (xs (nI (i + 1)).toNatClampNeg) hc (Decidable.not_not.mp hv)) (cwV 1 hts gL_law_X1_rung rfl rfl rfl (by decide +kernel) ⟨Nat.le_of_ble_eq_true rfl, Nat.le_of_ble_eq_true rfl⟩) ⟨zPre.blind, va_recv hK hP (ci := 1) (q0 := 0) rfl rfl, zPre.call (Nat.le_refl _) hP hD hK hE hS⟩ rfl rfl hl.1 rfl (lv_room (Nat.le_of_ble_eq_true rfl)) dL_law_565 hf1) hS (fun _ _ h9 => h9) (fun _ h9 => h9) (fun r_565 _ t H locs ht hvm h_565 hB hz1 hk1 hS => ?_)
    have h_565 : r_565 = (0) := h_565
    subst h_565
    obtain ⟨hP, hD⟩ := hB
    rw [ht] at hP
    have hP : va_P D vwCl (wM hm d2 cA (1) z c ++ (wX h d cA z c ++ [(o, .inl (cL, 1, .inr (.inl g)))])) H := hP
    have hD : va_D (zA s.heap.size) (wM hm d2 cA (1) z c ++ (wX h d cA z c ++ [(o, .inl (cL, 1, .inr (.inl g)))])) := hD
    refine lv_istore (lv' := [(6, .int 0), (5, .int 1), (4, .int (nI i)), (3, .ref o), (2, .ref hm), (1, .ref h), (0, .ref b)]) hx hb dL_law_568 hl (by decide) rfl (fun ls hl => ?_)
    refine lv_aload_n hx hb dL_law_570 rfl (lv_at hl 4 rfl) ?_
    refine vp_callSi ((va_runV (As := []) (rest := []) ⟨hx, hb, hml, hown, hts⟩ (c_X1_thrown l D s.heap.size cA cL (wX h d cA z c ++ [(o, .inl (cL, 1, .inr (.inl g)))]) hm d2 (1) z c  ) (cwV 0 hts gL_law_X1_thrown rfl rfl rfl (by decide +kernel) ⟨Nat.le_of_ble_eq_true rfl, Nat.le_of_ble_eq_true rfl⟩) ⟨zPre.blind, va_recv hK hP (ci := 1) (q0 := 0) rfl rfl, zPre.call (Nat.le_refl _) hP hD hK hE hS⟩ rfl rfl hl.1 rfl (lv_room (Nat.le_of_ble_eq_true rfl)) dL_law_571 hf1).run) (fun r_571 h_571 => ?_)
    have h_571 : r_571 = 1 := h_571
    subst h_571
    refine lv_iload hx hb dL_law_574 (lv_at hl 1 rfl) ?_
    refine lv_icmp_eq (tgt := 581) hx hb dL_law_576 (by decide) (fun _ => ?_) (fun c_576 => absurd c_576 (by decide))
    refine lv_iload hx hb dL_law_581 (lv_at hl 1 rfl) ?_
    refine lv_if_ne (tgt := 598) hx hb dL_law_583 (by decide) (fun _ => ?_) (fun c_583 => absurd c_583 (by decide))
    refine lv_goto (tgt := 1254) hx hb dL_law_598 (by decide) ?_
    have hP : va_P D vwCl (wX h d cA z c ++ ((o, .inl (cL, 1, .inr (.inl g))) :: wM hm d2 cA (1) z c)) H := hP.sub [8, 9, 10, 11, 12, 13, 14, 15, 16, 0, 1, 2, 3, 4, 5, 6, 7] rfl
    have hD : va_D (zA s.heap.size) (wX h d cA z c ++ ((o, .inl (cL, 1, .inr (.inl g))) :: wM hm d2 cA (1) z c)) := hD.sub [8, 9, 10, 11, 12, 13, 14, 15, 16, 0, 1, 2, 3, 4, 5, 6, 7] (by decide) rfl
    refine W.widen (k := cells + 1) (n := slots + 6) (by omega) (by omega) ?_
    exact kk z c (1) g hc hz _ _ hP hD hS ls (lv_sub hl [2, 3, 4, 5, 6] rfl)

set_option maxHeartbeats 8000000 in
set_option maxRecDepth 100000 in
theorem law_8 {p : Program} {l : Launch} {e : Env} {s : State} {m : MethodId} {below : List Frame} {meth : Method} {cd : Code} {b L : Nat} {xs : Nat → Int32} {D : va_G} {cA cL : ClassId} (C9 : zC9 p l s m meth cd b L xs D cA cL) {h hm o : Nat} {d d2 : Nat → Nat} {z : S7} {c : C5} {th : Int32} {g : Nat → Int64} (hc : okC c) (hz : okZ z) {i : Nat} (hi : i + 5 ≤ L) {cells slots : Nat} (hce : cells + 1 ≤ 1045) (hsl : slots + 6 ≤ 8314) (kk : zKK p l e s m below meth cd b D cA cL h hm o d d2 i cells slots) {H : Heap} {locs : List Loc} (hP : va_P D vwCl (zLW h d hm d2 o cA cL z c th g) H) (hD : va_D (zA s.heap.size) (zLW h d hm d2 o cA cL z c th g)) (hS : va_S (zA s.heap.size) s.heap H locs) {ls : Array Slot} (hl : lv_has ls 7 [(4, .int (nI i)), (3, .ref o), (2, .ref hm), (1, .ref h), (0, .ref b)]) : W p l e room_1 s m #[Value.ref b] below meth cd H locs cells slots (lw_Z below #[Value.ref b] s) (F0 m 601 ls []) := by
  obtain ⟨hst, hx, hb, hml, hown, hts, hX, hbl, hK, hE, hL⟩ := C9
  have hbA : ¬ zA s.heap.size b := Nat.not_le.mpr hbl
  have hf0 : cells + 0 ≤ room_1.cells ∧ slots + 0 ≤ room_1.slots := ⟨by show cells + 0 ≤ 1045; omega, by show slots + 0 ≤ 8314; omega⟩
  have hf1 : cells + 1 ≤ room_1.cells ∧ slots + 6 ≤ room_1.slots := ⟨hce, hsl⟩
  by_cases hp : zp (xs (nI (i + 1)).toNatClampNeg)
  · refine lv_aload_n hx hb dL_law_601 rfl (lv_at hl 3 rfl) ?_
    refine lv_aload_n hx hb dL_law_602 rfl (lv_at hl 4 rfl) ?_
    refine lv_iload hx hb dL_law_603 (lv_at hl 0 rfl) ?_
    refine lv_iconst (v := 1) hx hb dL_law_605 (by decide) ?_
    refine lv_iadd hx hb dL_law_606 ?_
    rw [show (((nI i) + 1) : Int32) = (nI (i + 1)) from (nI_add i 1)]
    refine va_sld hx hb hX hbl hbA hS (vp_in_nI (by omega) (by omega)) dL_law_607 ?_
    refine lv_aload_n hx hb dL_law_608 rfl (lv_at hl 1 rfl) ?_
    refine va_calli (vx_runSW (As := [.ref h, .int (xs (nI (i + 1)).toNatClampNeg), .ref o]) (rest := []) ⟨hx, hb, hml, hown, hts⟩ (c_L_stepOf_v l D s.heap.size cA cL (wM hm d2 cA (th) z c) h d z c o g (xs (nI (i + 1)).toNatClampNeg) hc hp) (vx_cwSW 3 hts gL_law_L_stepOf rfl rfl rfl (by decide +kernel) ⟨Nat.le_of_ble_eq_true rfl, Nat.le_of_ble_eq_true rfl⟩) ⟨zPre.blind, zPre.call (Nat.le_refl _) hP hD hK hE hS⟩ rfl rfl hl.1 rfl (lv_room (Nat.le_of_ble_eq_true rfl)) dL_law_609 hf0) hS (fun _ _ h9 => h9) (fun _ h9 => h9) (fun r_609 _ t H locs ht hvm h_609 hB hz1 hk1 hS => ?_)
    have h_609 : r_609 = 0 := h_609
    subst h_609
    obtain ⟨hP, hD⟩ := hB
    rw [ht] at hP
    have hP : va_P D vwCl (wX h d cA z c ++ ((o, .inl (cL, 1, .inr (.inl (vp_updL g (0 : Int32).toNatClampNeg (zStep c (xs (nI (i + 1)).toNatClampNeg)).toInt64)))) :: wM hm d2 cA (th) z c)) H := hP
    have hD : va_D (zA s.heap.size) (wX h d cA z c ++ ((o, .inl (cL, 1, .inr (.inl (vp_updL g (0 : Int32).toNatClampNeg (zStep c (xs (nI (i + 1)).toNatClampNeg)).toInt64)))) :: wM hm d2 cA (th) z c)) := hD
    refine lv_istore (lv' := [(5, .int 0), (4, .int (nI i)), (3, .ref o), (2, .ref hm), (1, .ref h), (0, .ref b)]) hx hb dL_law_612 hl (by decide) rfl (fun ls hl => ?_)
    refine lv_aload_n hx hb dL_law_614 rfl (lv_at hl 3 rfl) ?_
    refine lv_aload_n hx hb dL_law_615 rfl (lv_at hl 5 rfl) ?_
    refine lv_iload hx hb dL_law_616 (lv_at hl 1 rfl) ?_
    refine lv_iconst (v := 1) hx hb dL_law_618 (by decide) ?_
    refine lv_iadd hx hb dL_law_619 ?_
    rw [show (((nI i) + 1) : Int32) = (nI (i + 1)) from (nI_add i 1)]
    refine va_sld hx hb hX hbl hbA hS (vp_in_nI (by omega) (by omega)) dL_law_620 ?_
    have hP : va_P D vwCl (wM hm d2 cA (th) z c ++ (wX h d cA z c ++ [(o, .inl (cL, 1, .inr (.inl (vp_updL g (0 : Int32).toNatClampNeg (zStep c (xs (nI (i + 1)).toNatClampNeg)).toInt64))))])) H := hP.sub [9, 10, 11, 12, 13, 14, 15, 16, 0, 1, 2, 3, 4, 5, 6, 7, 8] rfl
    have hD : va_D (zA s.heap.size) (wM hm d2 cA (th) z c ++ (wX h d cA z c ++ [(o, .inl (cL, 1, .inr (.inl (vp_updL g (0 : Int32).toNatClampNeg (zStep c (xs (nI (i + 1)).toNatClampNeg)).toInt64))))])) := hD.sub [9, 10, 11, 12, 13, 14, 15, 16, 0, 1, 2, 3, 4, 5, 6, 7, 8] (by decide) rfl
    refine va_calli (va_runV (As := [.int (xs (nI (i + 1)).toNatClampNeg)]) (rest := []) ⟨hx, hb, hml, hown, hts⟩ (c_X1_stepOf_v l D s.heap.size cA cL (wX h d cA z c ++ [(o, .inl (cL, 1, .inr (.inl (vp_updL g (0 : Int32).toNatClampNeg (zStep c (xs (nI (i + 1)).toNatClampNeg)).toInt64))))]) hm d2 (th) z c (xs (nI (i + 1)).toNatClampNeg) hc hp) (cwV 1 hts gL_law_X1_stepOf rfl rfl rfl (by decide +kernel) ⟨Nat.le_of_ble_eq_true rfl, Nat.le_of_ble_eq_true rfl⟩) ⟨zPre.blind, va_recv hK hP (ci := 1) (q0 := 0) rfl rfl, zPre.call (Nat.le_refl _) hP hD hK hE hS⟩ rfl rfl hl.1 rfl (lv_room (Nat.le_of_ble_eq_true rfl)) dL_law_621 hf0) hS (fun _ _ h9 => h9) (fun _ h9 => h9) (fun r_621 _ t H locs ht hvm h_621 hB hz1 hk1 hS => ?_)
    have h_621 : r_621 = (zStep c (xs (nI (i + 1)).toNatClampNeg)) := h_621
    subst h_621
    obtain ⟨hP, hD⟩ := hB
    rw [ht] at hP
    have hP : va_P D vwCl (wM hm d2 cA (0) z c ++ (wX h d cA z c ++ [(o, .inl (cL, 1, .inr (.inl (vp_updL g (0 : Int32).toNatClampNeg (zStep c (xs (nI (i + 1)).toNatClampNeg)).toInt64))))])) H := hP
    have hD : va_D (zA s.heap.size) (wM hm d2 cA (0) z c ++ (wX h d cA z c ++ [(o, .inl (cL, 1, .inr (.inl (vp_updL g (0 : Int32).toNatClampNeg (zStep c (xs (nI (i + 1)).toNatClampNeg)).toInt64))))])) := hD
    refine lv_istore (lv' := [(6, .int (zStep c (xs (nI (i + 1)).toNatClampNeg))), (5, .int 0), (4, .int (nI i)), (3, .ref o), (2, .ref hm), (1, .ref h), (0, .ref b)]) hx hb dL_law_624 hl (by decide) rfl (fun ls hl => ?_)
    refine lv_aload_n hx hb dL_law_626 rfl (lv_at hl 4 rfl) ?_
    refine vp_callSi ((va_runV (As := []) (rest := []) ⟨hx, hb, hml, hown, hts⟩ (c_X1_thrown l D s.heap.size cA cL (wX h d cA z c ++ [(o, .inl (cL, 1, .inr (.inl (vp_updL g (0 : Int32).toNatClampNeg (zStep c (xs (nI (i + 1)).toNatClampNeg)).toInt64))))]) hm d2 (0) z c  ) (cwV 0 hts gL_law_X1_thrown rfl rfl rfl (by decide +kernel) ⟨Nat.le_of_ble_eq_true rfl, Nat.le_of_ble_eq_true rfl⟩) ⟨zPre.blind, va_recv hK hP (ci := 1) (q0 := 0) rfl rfl, zPre.call (Nat.le_refl _) hP hD hK hE hS⟩ rfl rfl hl.1 rfl (lv_room (Nat.le_of_ble_eq_true rfl)) dL_law_627 hf0).run) (fun r_627 h_627 => ?_)
    have h_627 : r_627 = 0 := h_627
    subst h_627
    refine lv_iload hx hb dL_law_630 (lv_at hl 1 rfl) ?_
    refine lv_icmp_eq (tgt := 637) hx hb dL_law_632 (by decide) (fun _ => ?_) (fun c_632 => absurd c_632 (by decide))
    refine lv_iload hx hb dL_law_637 (lv_at hl 1 rfl) ?_
    refine lv_if_ne (tgt := 654) hx hb dL_law_639 (by decide) (fun c_639 => absurd c_639 (by decide)) (fun _ => ?_)
    refine lv_aload_n hx hb dL_law_642 rfl (lv_at hl 3 rfl) ?_
    refine lv_iconst (v := 0) hx hb dL_law_643 (by decide) ?_
    have hP : va_P D vwCl (wX h d cA z c ++ ((o, .inl (cL, 1, .inr (.inl (vp_updL g (0 : Int32).toNatClampNeg (zStep c (xs (nI (i + 1)).toNatClampNeg)).toInt64)))) :: wM hm d2 cA (0) z c)) H := hP.sub [8, 9, 10, 11, 12, 13, 14, 15, 16, 0, 1, 2, 3, 4, 5, 6, 7] rfl
    have hD : va_D (zA s.heap.size) (wX h d cA z c ++ ((o, .inl (cL, 1, .inr (.inl (vp_updL g (0 : Int32).toNatClampNeg (zStep c (xs (nI (i + 1)).toNatClampNeg)).toInt64)))) :: wM hm d2 cA (0) z c)) := hD.sub [8, 9, 10, 11, 12, 13, 14, 15, 16, 0, 1, 2, 3, 4, 5, 6, 7] (by decide) rfl
    refine va_lald hx hb hK hP 8 1 rfl rfl (vp_in_nI (n := 0) (by decide) (by decide)) dL_law_644 ?_
    rw [show ((vp_updL g (0 : Int32).toNatClampNeg (zStep c (xs (nI (i + 1)).toNatClampNeg)).toInt64) (0 : Int32).toNatClampNeg : Int64) = (zStep c (xs (nI (i + 1)).toNatClampNeg)).toInt64 from pk_uLs]
    refine lv_iload hx hb dL_law_645 (lv_at hl 0 rfl) ?_
    refine lv_i2l hx hb dL_law_647 rfl ?_
    refine W.lcmp hx hb dL_law_648 ?_
    rw [show lg_cmp ((zStep c (xs (nI (i + 1)).toNatClampNeg)).toInt64) ((zStep c (xs (nI (i + 1)).toNatClampNeg)).toInt64) = 0 from zcmp _]
    refine lv_if_eq (tgt := 654) hx hb dL_law_649 (by decide) (fun _ => ?_) (fun c_649 => absurd c_649 (by decide))
    refine lv_goto (tgt := 1254) hx hb dL_law_654 (by decide) ?_
    refine W.widen (k := cells + 1) (n := slots + 6) (by omega) (by omega) ?_
    exact kk z c (0) (vp_updL g (0 : Int32).toNatClampNeg (zStep c (xs (nI (i + 1)).toNatClampNeg)).toInt64) hc hz _ _ hP hD hS ls (lv_sub hl [2, 3, 4, 5, 6] rfl)
  · refine lv_aload_n hx hb dL_law_601 rfl (lv_at hl 3 rfl) ?_
    refine lv_aload_n hx hb dL_law_602 rfl (lv_at hl 4 rfl) ?_
    refine lv_iload hx hb dL_law_603 (lv_at hl 0 rfl) ?_
    refine lv_iconst (v := 1) hx hb dL_law_605 (by decide) ?_
    refine lv_iadd hx hb dL_law_606 ?_
    rw [show (((nI i) + 1) : Int32) = (nI (i + 1)) from (nI_add i 1)]
    refine va_sld hx hb hX hbl hbA hS (vp_in_nI (by omega) (by omega)) dL_law_607 ?_
    refine lv_aload_n hx hb dL_law_608 rfl (lv_at hl 1 rfl) ?_
    refine va_calli (vx_runSW (As := [.ref h, .int (xs (nI (i + 1)).toNatClampNeg), .ref o]) (rest := []) ⟨hx, hb, hml, hown, hts⟩ (c_L_stepOf_1 l hst D s.heap.size cA cL (wM hm d2 cA (th) z c) h d z c o g (xs (nI (i + 1)).toNatClampNeg) hp) (vx_cwSW 3 hts gL_law_L_stepOf rfl rfl rfl (by decide +kernel) ⟨Nat.le_of_ble_eq_true rfl, Nat.le_of_ble_eq_true rfl⟩) ⟨zPre.blind, zPre.call (Nat.le_refl _) hP hD hK hE hS⟩ rfl rfl hl.1 rfl (lv_room (Nat.le_of_ble_eq_true rfl)) dL_law_609 hf1) hS (fun _ _ h9 => h9) (fun _ h9 => h9) (fun r_609 _ t H locs ht hvm h_609 hB hz1 hk1 hS => ?_)
    have h_609 : r_609 = 1 := h_609
    subst h_609
    obtain ⟨hP, hD⟩ := hB
    rw [ht] at hP
    have hP : va_P D vwCl (wX h d cA z c ++ ((o, .inl (cL, 1, .inr (.inl g))) :: wM hm d2 cA (th) z c)) H := hP
    have hD : va_D (zA s.heap.size) (wX h d cA z c ++ ((o, .inl (cL, 1, .inr (.inl g))) :: wM hm d2 cA (th) z c)) := hD
    refine lv_istore (lv' := [(5, .int 1), (4, .int (nI i)), (3, .ref o), (2, .ref hm), (1, .ref h), (0, .ref b)]) hx hb dL_law_612 hl (by decide) rfl (fun ls hl => ?_)
    refine lv_aload_n hx hb dL_law_614 rfl (lv_at hl 3 rfl) ?_
    refine lv_aload_n hx hb dL_law_615 rfl (lv_at hl 5 rfl) ?_
    refine lv_iload hx hb dL_law_616 (lv_at hl 1 rfl) ?_
    refine lv_iconst (v := 1) hx hb dL_law_618 (by decide) ?_
    refine lv_iadd hx hb dL_law_619 ?_
    rw [show (((nI i) + 1) : Int32) = (nI (i + 1)) from (nI_add i 1)]
    refine va_sld hx hb hX hbl hbA hS (vp_in_nI (by omega) (by omega)) dL_law_620 ?_
    have hP : va_P D vwCl (wM hm d2 cA (th) z c ++ (wX h d cA z c ++ [(o, .inl (cL, 1, .inr (.inl g)))])) H := hP.sub [9, 10, 11, 12, 13, 14, 15, 16, 0, 1, 2, 3, 4, 5, 6, 7, 8] rfl
    have hD : va_D (zA s.heap.size) (wM hm d2 cA (th) z c ++ (wX h d cA z c ++ [(o, .inl (cL, 1, .inr (.inl g)))])) := hD.sub [9, 10, 11, 12, 13, 14, 15, 16, 0, 1, 2, 3, 4, 5, 6, 7, 8] (by decide) rfl
    refine va_calli (va_runV (As := [.int (xs (nI (i + 1)).toNatClampNeg)]) (rest := []) ⟨hx, hb, hml, hown, hts⟩ (c_X1_stepOf_1 l D s.heap.size cA cL (wX h d cA z c ++ [(o, .inl (cL, 1, .inr (.inl g)))]) hm d2 (th) z c (xs (nI (i + 1)).toNatClampNeg) hp) (cwV 1 hts gL_law_X1_stepOf rfl rfl rfl (by decide +kernel) ⟨Nat.le_of_ble_eq_true rfl, Nat.le_of_ble_eq_true rfl⟩) ⟨zPre.blind, va_recv hK hP (ci := 1) (q0 := 0) rfl rfl, zPre.call (Nat.le_refl _) hP hD hK hE hS⟩ rfl rfl hl.1 rfl (lv_room (Nat.le_of_ble_eq_true rfl)) dL_law_621 hf1) hS (fun _ _ h9 => h9) (fun _ h9 => h9) (fun r_621 _ t H locs ht hvm h_621 hB hz1 hk1 hS => ?_)
    have h_621 : r_621 = (0) := h_621
    subst h_621
    obtain ⟨hP, hD⟩ := hB
    rw [ht] at hP
    have hP : va_P D vwCl (wM hm d2 cA (1) z c ++ (wX h d cA z c ++ [(o, .inl (cL, 1, .inr (.inl g)))])) H := hP
    have hD : va_D (zA s.heap.size) (wM hm d2 cA (1) z c ++ (wX h d cA z c ++ [(o, .inl (cL, 1, .inr (.inl g)))])) := hD
    refine lv_istore (lv' := [(6, .int 0), (5, .int 1), (4, .int (nI i)), (3, .ref o), (2, .ref hm), (1, .ref h), (0, .ref b)]) hx hb dL_law_624 hl (by decide) rfl (fun ls hl => ?_)
    refine lv_aload_n hx hb dL_law_626 rfl (lv_at hl 4 rfl) ?_
    refine vp_callSi ((va_runV (As := []) (rest := []) ⟨hx, hb, hml, hown, hts⟩ (c_X1_thrown l D s.heap.size cA cL (wX h d cA z c ++ [(o, .inl (cL, 1, .inr (.inl g)))]) hm d2 (1) z c  ) (cwV 0 hts gL_law_X1_thrown rfl rfl rfl (by decide +kernel) ⟨Nat.le_of_ble_eq_true rfl, Nat.le_of_ble_eq_true rfl⟩) ⟨zPre.blind, va_recv hK hP (ci := 1) (q0 := 0) rfl rfl, zPre.call (Nat.le_refl _) hP hD hK hE hS⟩ rfl rfl hl.1 rfl (lv_room (Nat.le_of_ble_eq_true rfl)) dL_law_627 hf1).run) (fun r_627 h_627 => ?_)
    have h_627 : r_627 = 1 := h_627
    subst h_627
    refine lv_iload hx hb dL_law_630 (lv_at hl 1 rfl) ?_
    refine lv_icmp_eq (tgt := 637) hx hb dL_law_632 (by decide) (fun _ => ?_) (fun c_632 => absurd c_632 (by decide))
    refine lv_iload hx hb dL_law_637 (lv_at hl 1 rfl) ?_
    refine lv_if_ne (tgt := 654) hx hb dL_law_639 (by decide) (fun _ => ?_) (fun c_639 => absurd c_639 (by decide))
    refine lv_goto (tgt := 1254) hx hb dL_law_654 (by decide) ?_
    have hP : va_P D vwCl (wX h d cA z c ++ ((o, .inl (cL, 1, .inr (.inl g))) :: wM hm d2 cA (1) z c)) H := hP.sub [8, 9, 10, 11, 12, 13, 14, 15, 16, 0, 1, 2, 3, 4, 5, 6, 7] rfl
    have hD : va_D (zA s.heap.size) (wX h d cA z c ++ ((o, .inl (cL, 1, .inr (.inl g))) :: wM hm d2 cA (1) z c)) := hD.sub [8, 9, 10, 11, 12, 13, 14, 15, 16, 0, 1, 2, 3, 4, 5, 6, 7] (by decide) rfl
    refine W.widen (k := cells + 1) (n := slots + 6) (by omega) (by omega) ?_
    exact kk z c (1) g hc hz _ _ hP hD hS ls (lv_sub hl [2, 3, 4, 5, 6] rfl)

set_option maxHeartbeats 8000000 in
set_option maxRecDepth 100000 in
theorem law_9 {p : Program} {l : Launch} {e : Env} {s : State} {m : MethodId} {below : List Frame} {meth : Method} {cd : Code} {b L : Nat} {xs : Nat → Int32} {D : va_G} {cA cL : ClassId} (C9 : zC9 p l s m meth cd b L xs D cA cL) {h hm o : Nat} {d d2 : Nat → Nat} {z : S7} {c : C5} {th : Int32} {g : Nat → Int64} (hc : okC c) (hz : okZ z) {i : Nat} (hi : i + 5 ≤ L) {cells slots : Nat} (hce : cells + 1 ≤ 1045) (hsl : slots + 6 ≤ 8314) (kk : zKK p l e s m below meth cd b D cA cL h hm o d d2 i cells slots) {H : Heap} {locs : List Loc} (hP : va_P D vwCl (zLW h d hm d2 o cA cL z c th g) H) (hD : va_D (zA s.heap.size) (zLW h d hm d2 o cA cL z c th g)) (hS : va_S (zA s.heap.size) s.heap H locs) {ls : Array Slot} (hl : lv_has ls 7 [(4, .int (nI i)), (3, .ref o), (2, .ref hm), (1, .ref h), (0, .ref b)]) : W p l e room_1 s m #[Value.ref b] below meth cd H locs cells slots (lw_Z below #[Value.ref b] s) (F0 m 657 ls []) := by
  obtain ⟨hst, hx, hb, hml, hown, hts, hX, hbl, hK, hE, hL⟩ := C9
  have hbA : ¬ zA s.heap.size b := Nat.not_le.mpr hbl
  have hf0 : cells + 0 ≤ room_1.cells ∧ slots + 0 ≤ room_1.slots := ⟨by show cells + 0 ≤ 1045; omega, by show slots + 0 ≤ 8314; omega⟩
  have hf1 : cells + 1 ≤ room_1.cells ∧ slots + 6 ≤ room_1.slots := ⟨hce, hsl⟩
  by_cases hw : zw (xs (nI (i + 1)).toNatClampNeg)
  · refine lv_aload_n hx hb dL_law_657 rfl (lv_at hl 3 rfl) ?_
    refine lv_aload_n hx hb dL_law_658 rfl (lv_at hl 4 rfl) ?_
    refine lv_iload hx hb dL_law_659 (lv_at hl 0 rfl) ?_
    refine lv_iconst (v := 1) hx hb dL_law_661 (by decide) ?_
    refine lv_iadd hx hb dL_law_662 ?_
    rw [show (((nI i) + 1) : Int32) = (nI (i + 1)) from (nI_add i 1)]
    refine va_sld hx hb hX hbl hbA hS (vp_in_nI (by omega) (by omega)) dL_law_663 ?_
    refine lv_aload_n hx hb dL_law_664 rfl (lv_at hl 1 rfl) ?_
    refine va_calli (vx_runSW (As := [.ref h, .int (xs (nI (i + 1)).toNatClampNeg), .ref o]) (rest := []) ⟨hx, hb, hml, hown, hts⟩ (c_L_rungOf_v l D s.heap.size cA cL (wM hm d2 cA (th) z c) h d z c o g (xs (nI (i + 1)).toNatClampNeg) hw) (vx_cwSW 3 hts gL_law_L_rungOf rfl rfl rfl (by decide +kernel) ⟨Nat.le_of_ble_eq_true rfl, Nat.le_of_ble_eq_true rfl⟩) ⟨zPre.blind, zPre.call (Nat.le_refl _) hP hD hK hE hS⟩ rfl rfl hl.1 rfl (lv_room (Nat.le_of_ble_eq_true rfl)) dL_law_665 hf0) hS (fun _ _ h9 => h9) (fun _ h9 => h9) (fun r_665 _ t H locs ht hvm h_665 hB hz1 hk1 hS => ?_)
    have h_665 : r_665 = 0 := h_665
    subst h_665
    obtain ⟨hP, hD⟩ := hB
    rw [ht] at hP
    have hP : va_P D vwCl (wX h d cA z c ++ ((o, .inl (cL, 1, .inr (.inl (vp_updL g (0 : Int32).toNatClampNeg (z.1 (xs (nI (i + 1)).toNatClampNeg).toNatClampNeg).toInt64)))) :: wM hm d2 cA (th) z c)) H := hP
    have hD : va_D (zA s.heap.size) (wX h d cA z c ++ ((o, .inl (cL, 1, .inr (.inl (vp_updL g (0 : Int32).toNatClampNeg (z.1 (xs (nI (i + 1)).toNatClampNeg).toNatClampNeg).toInt64)))) :: wM hm d2 cA (th) z c)) := hD
    refine lv_istore (lv' := [(5, .int 0), (4, .int (nI i)), (3, .ref o), (2, .ref hm), (1, .ref h), (0, .ref b)]) hx hb dL_law_668 hl (by decide) rfl (fun ls hl => ?_)
    refine lv_aload_n hx hb dL_law_670 rfl (lv_at hl 3 rfl) ?_
    refine lv_aload_n hx hb dL_law_671 rfl (lv_at hl 5 rfl) ?_
    refine lv_iload hx hb dL_law_672 (lv_at hl 1 rfl) ?_
    refine lv_iconst (v := 1) hx hb dL_law_674 (by decide) ?_
    refine lv_iadd hx hb dL_law_675 ?_
    rw [show (((nI i) + 1) : Int32) = (nI (i + 1)) from (nI_add i 1)]
    refine va_sld hx hb hX hbl hbA hS (vp_in_nI (by omega) (by omega)) dL_law_676 ?_
    have hP : va_P D vwCl (wM hm d2 cA (th) z c ++ (wX h d cA z c ++ [(o, .inl (cL, 1, .inr (.inl (vp_updL g (0 : Int32).toNatClampNeg (z.1 (xs (nI (i + 1)).toNatClampNeg).toNatClampNeg).toInt64))))])) H := hP.sub [9, 10, 11, 12, 13, 14, 15, 16, 0, 1, 2, 3, 4, 5, 6, 7, 8] rfl
    have hD : va_D (zA s.heap.size) (wM hm d2 cA (th) z c ++ (wX h d cA z c ++ [(o, .inl (cL, 1, .inr (.inl (vp_updL g (0 : Int32).toNatClampNeg (z.1 (xs (nI (i + 1)).toNatClampNeg).toNatClampNeg).toInt64))))])) := hD.sub [9, 10, 11, 12, 13, 14, 15, 16, 0, 1, 2, 3, 4, 5, 6, 7, 8] (by decide) rfl
    refine va_calli (va_runV (As := [.int (xs (nI (i + 1)).toNatClampNeg)]) (rest := []) ⟨hx, hb, hml, hown, hts⟩ (c_X1_rungOf_v l D s.heap.size cA cL (wX h d cA z c ++ [(o, .inl (cL, 1, .inr (.inl (vp_updL g (0 : Int32).toNatClampNeg (z.1 (xs (nI (i + 1)).toNatClampNeg).toNatClampNeg).toInt64))))]) hm d2 (th) z c (xs (nI (i + 1)).toNatClampNeg) hw) (cwV 1 hts gL_law_X1_rungOf rfl rfl rfl (by decide +kernel) ⟨Nat.le_of_ble_eq_true rfl, Nat.le_of_ble_eq_true rfl⟩) ⟨zPre.blind, va_recv hK hP (ci := 1) (q0 := 0) rfl rfl, zPre.call (Nat.le_refl _) hP hD hK hE hS⟩ rfl rfl hl.1 rfl (lv_room (Nat.le_of_ble_eq_true rfl)) dL_law_677 hf0) hS (fun _ _ h9 => h9) (fun _ h9 => h9) (fun r_677 _ t H locs ht hvm h_677 hB hz1 hk1 hS => ?_)
    have h_677 : r_677 = (z.1 (xs (nI (i + 1)).toNatClampNeg).toNatClampNeg) := h_677
    subst h_677
    obtain ⟨hP, hD⟩ := hB
    rw [ht] at hP
    have hP : va_P D vwCl (wM hm d2 cA (0) z c ++ (wX h d cA z c ++ [(o, .inl (cL, 1, .inr (.inl (vp_updL g (0 : Int32).toNatClampNeg (z.1 (xs (nI (i + 1)).toNatClampNeg).toNatClampNeg).toInt64))))])) H := hP
    have hD : va_D (zA s.heap.size) (wM hm d2 cA (0) z c ++ (wX h d cA z c ++ [(o, .inl (cL, 1, .inr (.inl (vp_updL g (0 : Int32).toNatClampNeg (z.1 (xs (nI (i + 1)).toNatClampNeg).toNatClampNeg).toInt64))))])) := hD
    refine lv_istore (lv' := [(6, .int (z.1 (xs (nI (i + 1)).toNatClampNeg).toNatClampNeg)), (5, .int 0), (4, .int (nI i)), (3, .ref o), (2, .ref hm), (1, .ref h), (0, .ref b)]) hx hb dL_law_680 hl (by decide) rfl (fun ls hl => ?_)
    refine lv_aload_n hx hb dL_law_682 rfl (lv_at hl 4 rfl) ?_
    refine vp_callSi ((va_runV (As := []) (rest := []) ⟨hx, hb, hml, hown, hts⟩ (c_X1_thrown l D s.heap.size cA cL (wX h d cA z c ++ [(o, .inl (cL, 1, .inr (.inl (vp_updL g (0 : Int32).toNatClampNeg (z.1 (xs (nI (i + 1)).toNatClampNeg).toNatClampNeg).toInt64))))]) hm d2 (0) z c  ) (cwV 0 hts gL_law_X1_thrown rfl rfl rfl (by decide +kernel) ⟨Nat.le_of_ble_eq_true rfl, Nat.le_of_ble_eq_true rfl⟩) ⟨zPre.blind, va_recv hK hP (ci := 1) (q0 := 0) rfl rfl, zPre.call (Nat.le_refl _) hP hD hK hE hS⟩ rfl rfl hl.1 rfl (lv_room (Nat.le_of_ble_eq_true rfl)) dL_law_683 hf0).run) (fun r_683 h_683 => ?_)
    have h_683 : r_683 = 0 := h_683
    subst h_683
    refine lv_iload hx hb dL_law_686 (lv_at hl 1 rfl) ?_
    refine lv_icmp_eq (tgt := 693) hx hb dL_law_688 (by decide) (fun _ => ?_) (fun c_688 => absurd c_688 (by decide))
    refine lv_iload hx hb dL_law_693 (lv_at hl 1 rfl) ?_
    refine lv_if_ne (tgt := 710) hx hb dL_law_695 (by decide) (fun c_695 => absurd c_695 (by decide)) (fun _ => ?_)
    refine lv_aload_n hx hb dL_law_698 rfl (lv_at hl 3 rfl) ?_
    refine lv_iconst (v := 0) hx hb dL_law_699 (by decide) ?_
    have hP : va_P D vwCl (wX h d cA z c ++ ((o, .inl (cL, 1, .inr (.inl (vp_updL g (0 : Int32).toNatClampNeg (z.1 (xs (nI (i + 1)).toNatClampNeg).toNatClampNeg).toInt64)))) :: wM hm d2 cA (0) z c)) H := hP.sub [8, 9, 10, 11, 12, 13, 14, 15, 16, 0, 1, 2, 3, 4, 5, 6, 7] rfl
    have hD : va_D (zA s.heap.size) (wX h d cA z c ++ ((o, .inl (cL, 1, .inr (.inl (vp_updL g (0 : Int32).toNatClampNeg (z.1 (xs (nI (i + 1)).toNatClampNeg).toNatClampNeg).toInt64)))) :: wM hm d2 cA (0) z c)) := hD.sub [8, 9, 10, 11, 12, 13, 14, 15, 16, 0, 1, 2, 3, 4, 5, 6, 7] (by decide) rfl
    refine va_lald hx hb hK hP 8 1 rfl rfl (vp_in_nI (n := 0) (by decide) (by decide)) dL_law_700 ?_
    rw [show ((vp_updL g (0 : Int32).toNatClampNeg (z.1 (xs (nI (i + 1)).toNatClampNeg).toNatClampNeg).toInt64) (0 : Int32).toNatClampNeg : Int64) = (z.1 (xs (nI (i + 1)).toNatClampNeg).toNatClampNeg).toInt64 from pk_uLs]
    refine lv_iload hx hb dL_law_701 (lv_at hl 0 rfl) ?_
    refine lv_i2l hx hb dL_law_703 rfl ?_
    refine W.lcmp hx hb dL_law_704 ?_
    rw [show lg_cmp ((z.1 (xs (nI (i + 1)).toNatClampNeg).toNatClampNeg).toInt64) ((z.1 (xs (nI (i + 1)).toNatClampNeg).toNatClampNeg).toInt64) = 0 from zcmp _]
    refine lv_if_eq (tgt := 710) hx hb dL_law_705 (by decide) (fun _ => ?_) (fun c_705 => absurd c_705 (by decide))
    refine lv_goto (tgt := 1254) hx hb dL_law_710 (by decide) ?_
    refine W.widen (k := cells + 1) (n := slots + 6) (by omega) (by omega) ?_
    exact kk z c (0) (vp_updL g (0 : Int32).toNatClampNeg (z.1 (xs (nI (i + 1)).toNatClampNeg).toNatClampNeg).toInt64) hc hz _ _ hP hD hS ls (lv_sub hl [2, 3, 4, 5, 6] rfl)
  · refine lv_aload_n hx hb dL_law_657 rfl (lv_at hl 3 rfl) ?_
    refine lv_aload_n hx hb dL_law_658 rfl (lv_at hl 4 rfl) ?_
    refine lv_iload hx hb dL_law_659 (lv_at hl 0 rfl) ?_
    refine lv_iconst (v := 1) hx hb dL_law_661 (by decide) ?_
    refine lv_iadd hx hb dL_law_662 ?_
    rw [show (((nI i) + 1) : Int32) = (nI (i + 1)) from (nI_add i 1)]
    refine va_sld hx hb hX hbl hbA hS (vp_in_nI (by omega) (by omega)) dL_law_663 ?_
    refine lv_aload_n hx hb dL_law_664 rfl (lv_at hl 1 rfl) ?_
    refine va_calli (vx_runSW (As := [.ref h, .int (xs (nI (i + 1)).toNatClampNeg), .ref o]) (rest := []) ⟨hx, hb, hml, hown, hts⟩ (c_L_rungOf_1 l hst D s.heap.size cA cL (wM hm d2 cA (th) z c) h d z c o g (xs (nI (i + 1)).toNatClampNeg) hw) (vx_cwSW 3 hts gL_law_L_rungOf rfl rfl rfl (by decide +kernel) ⟨Nat.le_of_ble_eq_true rfl, Nat.le_of_ble_eq_true rfl⟩) ⟨zPre.blind, zPre.call (Nat.le_refl _) hP hD hK hE hS⟩ rfl rfl hl.1 rfl (lv_room (Nat.le_of_ble_eq_true rfl)) dL_law_665 hf1) hS (fun _ _ h9 => h9) (fun _ h9 => h9) (fun r_665 _ t H locs ht hvm h_665 hB hz1 hk1 hS => ?_)
    have h_665 : r_665 = 1 := h_665
    subst h_665
    obtain ⟨hP, hD⟩ := hB
    rw [ht] at hP
    have hP : va_P D vwCl (wX h d cA z c ++ ((o, .inl (cL, 1, .inr (.inl g))) :: wM hm d2 cA (th) z c)) H := hP
    have hD : va_D (zA s.heap.size) (wX h d cA z c ++ ((o, .inl (cL, 1, .inr (.inl g))) :: wM hm d2 cA (th) z c)) := hD
    refine lv_istore (lv' := [(5, .int 1), (4, .int (nI i)), (3, .ref o), (2, .ref hm), (1, .ref h), (0, .ref b)]) hx hb dL_law_668 hl (by decide) rfl (fun ls hl => ?_)
    refine lv_aload_n hx hb dL_law_670 rfl (lv_at hl 3 rfl) ?_
    refine lv_aload_n hx hb dL_law_671 rfl (lv_at hl 5 rfl) ?_
    refine lv_iload hx hb dL_law_672 (lv_at hl 1 rfl) ?_
    refine lv_iconst (v := 1) hx hb dL_law_674 (by decide) ?_
    refine lv_iadd hx hb dL_law_675 ?_
    rw [show (((nI i) + 1) : Int32) = (nI (i + 1)) from (nI_add i 1)]
    refine va_sld hx hb hX hbl hbA hS (vp_in_nI (by omega) (by omega)) dL_law_676 ?_
    have hP : va_P D vwCl (wM hm d2 cA (th) z c ++ (wX h d cA z c ++ [(o, .inl (cL, 1, .inr (.inl g)))])) H := hP.sub [9, 10, 11, 12, 13, 14, 15, 16, 0, 1, 2, 3, 4, 5, 6, 7, 8] rfl
    have hD : va_D (zA s.heap.size) (wM hm d2 cA (th) z c ++ (wX h d cA z c ++ [(o, .inl (cL, 1, .inr (.inl g)))])) := hD.sub [9, 10, 11, 12, 13, 14, 15, 16, 0, 1, 2, 3, 4, 5, 6, 7, 8] (by decide) rfl
    refine va_calli (va_runV (As := [.int (xs (nI (i + 1)).toNatClampNeg)]) (rest := []) ⟨hx, hb, hml, hown, hts⟩ (c_X1_rungOf_1 l D s.heap.size cA cL (wX h d cA z c ++ [(o, .inl (cL, 1, .inr (.inl g)))]) hm d2 (th) z c (xs (nI (i + 1)).toNatClampNeg) hw) (cwV 1 hts gL_law_X1_rungOf rfl rfl rfl (by decide +kernel) ⟨Nat.le_of_ble_eq_true rfl, Nat.le_of_ble_eq_true rfl⟩) ⟨zPre.blind, va_recv hK hP (ci := 1) (q0 := 0) rfl rfl, zPre.call (Nat.le_refl _) hP hD hK hE hS⟩ rfl rfl hl.1 rfl (lv_room (Nat.le_of_ble_eq_true rfl)) dL_law_677 hf1) hS (fun _ _ h9 => h9) (fun _ h9 => h9) (fun r_677 _ t H locs ht hvm h_677 hB hz1 hk1 hS => ?_)
    have h_677 : r_677 = (0) := h_677
    subst h_677
    obtain ⟨hP, hD⟩ := hB
    rw [ht] at hP
    have hP : va_P D vwCl (wM hm d2 cA (1) z c ++ (wX h d cA z c ++ [(o, .inl (cL, 1, .inr (.inl g)))])) H := hP
    have hD : va_D (zA s.heap.size) (wM hm d2 cA (1) z c ++ (wX h d cA z c ++ [(o, .inl (cL, 1, .inr (.inl g)))])) := hD
    refine lv_istore (lv' := [(6, .int 0), (5, .int 1), (4, .int (nI i)), (3, .ref o), (2, .ref hm), (1, .ref h), (0, .ref b)]) hx hb dL_law_680 hl (by decide) rfl (fun ls hl => ?_)
    refine lv_aload_n hx hb dL_law_682 rfl (lv_at hl 4 rfl) ?_
    refine vp_callSi ((va_runV (As := []) (rest := []) ⟨hx, hb, hml, hown, hts⟩ (c_X1_thrown l D s.heap.size cA cL (wX h d cA z c ++ [(o, .inl (cL, 1, .inr (.inl g)))]) hm d2 (1) z c  ) (cwV 0 hts gL_law_X1_thrown rfl rfl rfl (by decide +kernel) ⟨Nat.le_of_ble_eq_true rfl, Nat.le_of_ble_eq_true rfl⟩) ⟨zPre.blind, va_recv hK hP (ci := 1) (q0 := 0) rfl rfl, zPre.call (Nat.le_refl _) hP hD hK hE hS⟩ rfl rfl hl.1 rfl (lv_room (Nat.le_of_ble_eq_true rfl)) dL_law_683 hf1).run) (fun r_683 h_683 => ?_)
    have h_683 : r_683 = 1 := h_683
    subst h_683
    refine lv_iload hx hb dL_law_686 (lv_at hl 1 rfl) ?_
    refine lv_icmp_eq (tgt := 693) hx hb dL_law_688 (by decide) (fun _ => ?_) (fun c_688 => absurd c_688 (by decide))
    refine lv_iload hx hb dL_law_693 (lv_at hl 1 rfl) ?_
    refine lv_if_ne (tgt := 710) hx hb dL_law_695 (by decide) (fun _ => ?_) (fun c_695 => absurd c_695 (by decide))
    refine lv_goto (tgt := 1254) hx hb dL_law_710 (by decide) ?_
    have hP : va_P D vwCl (wX h d cA z c ++ ((o, .inl (cL, 1, .inr (.inl g))) :: wM hm d2 cA (1) z c)) H := hP.sub [8, 9, 10, 11, 12, 13, 14, 15, 16, 0, 1, 2, 3, 4, 5, 6, 7] rfl
    have hD : va_D (zA s.heap.size) (wX h d cA z c ++ ((o, .inl (cL, 1, .inr (.inl g))) :: wM hm d2 cA (1) z c)) := hD.sub [8, 9, 10, 11, 12, 13, 14, 15, 16, 0, 1, 2, 3, 4, 5, 6, 7] (by decide) rfl
    refine W.widen (k := cells + 1) (n := slots + 6) (by omega) (by omega) ?_
    exact kk z c (1) g hc hz _ _ hP hD hS ls (lv_sub hl [2, 3, 4, 5, 6] rfl)

set_option maxHeartbeats 8000000 in
set_option maxRecDepth 100000 in
theorem law_10 {p : Program} {l : Launch} {e : Env} {s : State} {m : MethodId} {below : List Frame} {meth : Method} {cd : Code} {b L : Nat} {xs : Nat → Int32} {D : va_G} {cA cL : ClassId} (C9 : zC9 p l s m meth cd b L xs D cA cL) {h hm o : Nat} {d d2 : Nat → Nat} {z : S7} {c : C5} {th : Int32} {g : Nat → Int64} (hc : okC c) (hz : okZ z) {i : Nat} (hi : i + 5 ≤ L) {cells slots : Nat} (hce : cells + 1 ≤ 1045) (hsl : slots + 6 ≤ 8314) (kk : zKK p l e s m below meth cd b D cA cL h hm o d d2 i cells slots) {H : Heap} {locs : List Loc} (hP : va_P D vwCl (zLW h d hm d2 o cA cL z c th g) H) (hD : va_D (zA s.heap.size) (zLW h d hm d2 o cA cL z c th g)) (hS : va_S (zA s.heap.size) s.heap H locs) {ls : Array Slot} (hl : lv_has ls 7 [(4, .int (nI i)), (3, .ref o), (2, .ref hm), (1, .ref h), (0, .ref b)]) : W p l e room_1 s m #[Value.ref b] below meth cd H locs cells slots (lw_Z below #[Value.ref b] s) (F0 m 713 ls []) := by
  obtain ⟨hst, hx, hb, hml, hown, hts, hX, hbl, hK, hE, hL⟩ := C9
  have hbA : ¬ zA s.heap.size b := Nat.not_le.mpr hbl
  have hf0 : cells + 0 ≤ room_1.cells ∧ slots + 0 ≤ room_1.slots := ⟨by show cells + 0 ≤ 1045; omega, by show slots + 0 ≤ 8314; omega⟩
  have hf1 : cells + 1 ≤ room_1.cells ∧ slots + 6 ≤ room_1.slots := ⟨hce, hsl⟩
  by_cases hw : zw (xs (nI (i + 1)).toNatClampNeg)
  · refine lv_aload_n hx hb dL_law_713 rfl (lv_at hl 3 rfl) ?_
    refine lv_aload_n hx hb dL_law_714 rfl (lv_at hl 4 rfl) ?_
    refine lv_iload hx hb dL_law_715 (lv_at hl 0 rfl) ?_
    refine lv_iconst (v := 1) hx hb dL_law_717 (by decide) ?_
    refine lv_iadd hx hb dL_law_718 ?_
    rw [show (((nI i) + 1) : Int32) = (nI (i + 1)) from (nI_add i 1)]
    refine va_sld hx hb hX hbl hbA hS (vp_in_nI (by omega) (by omega)) dL_law_719 ?_
    refine lv_aload_n hx hb dL_law_720 rfl (lv_at hl 1 rfl) ?_
    refine va_calli (vx_runSW (As := [.ref h, .int (xs (nI (i + 1)).toNatClampNeg), .ref o]) (rest := []) ⟨hx, hb, hml, hown, hts⟩ (c_L_nudgeOf_v l D s.heap.size cA cL (wM hm d2 cA (th) z c) h d z c o g (xs (nI (i + 1)).toNatClampNeg) hw) (vx_cwSW 3 hts gL_law_L_nudgeOf rfl rfl rfl (by decide +kernel) ⟨Nat.le_of_ble_eq_true rfl, Nat.le_of_ble_eq_true rfl⟩) ⟨zPre.blind, zPre.call (Nat.le_refl _) hP hD hK hE hS⟩ rfl rfl hl.1 rfl (lv_room (Nat.le_of_ble_eq_true rfl)) dL_law_721 hf0) hS (fun _ _ h9 => h9) (fun _ h9 => h9) (fun r_721 _ t H locs ht hvm h_721 hB hz1 hk1 hS => ?_)
    have h_721 : r_721 = 0 := h_721
    subst h_721
    obtain ⟨hP, hD⟩ := hB
    rw [ht] at hP
    have hP : va_P D vwCl (wX h d cA z c ++ ((o, .inl (cL, 1, .inr (.inl (vp_updL g (0 : Int32).toNatClampNeg (z.2.1 (xs (nI (i + 1)).toNatClampNeg).toNatClampNeg).toInt64)))) :: wM hm d2 cA (th) z c)) H := hP
    have hD : va_D (zA s.heap.size) (wX h d cA z c ++ ((o, .inl (cL, 1, .inr (.inl (vp_updL g (0 : Int32).toNatClampNeg (z.2.1 (xs (nI (i + 1)).toNatClampNeg).toNatClampNeg).toInt64)))) :: wM hm d2 cA (th) z c)) := hD
    refine lv_istore (lv' := [(5, .int 0), (4, .int (nI i)), (3, .ref o), (2, .ref hm), (1, .ref h), (0, .ref b)]) hx hb dL_law_724 hl (by decide) rfl (fun ls hl => ?_)
    refine lv_aload_n hx hb dL_law_726 rfl (lv_at hl 3 rfl) ?_
    refine lv_aload_n hx hb dL_law_727 rfl (lv_at hl 5 rfl) ?_
    refine lv_iload hx hb dL_law_728 (lv_at hl 1 rfl) ?_
    refine lv_iconst (v := 1) hx hb dL_law_730 (by decide) ?_
    refine lv_iadd hx hb dL_law_731 ?_
    rw [show (((nI i) + 1) : Int32) = (nI (i + 1)) from (nI_add i 1)]
    refine va_sld hx hb hX hbl hbA hS (vp_in_nI (by omega) (by omega)) dL_law_732 ?_
    have hP : va_P D vwCl (wM hm d2 cA (th) z c ++ (wX h d cA z c ++ [(o, .inl (cL, 1, .inr (.inl (vp_updL g (0 : Int32).toNatClampNeg (z.2.1 (xs (nI (i + 1)).toNatClampNeg).toNatClampNeg).toInt64))))])) H := hP.sub [9, 10, 11, 12, 13, 14, 15, 16, 0, 1, 2, 3, 4, 5, 6, 7, 8] rfl
    have hD : va_D (zA s.heap.size) (wM hm d2 cA (th) z c ++ (wX h d cA z c ++ [(o, .inl (cL, 1, .inr (.inl (vp_updL g (0 : Int32).toNatClampNeg (z.2.1 (xs (nI (i + 1)).toNatClampNeg).toNatClampNeg).toInt64))))])) := hD.sub [9, 10, 11, 12, 13, 14, 15, 16, 0, 1, 2, 3, 4, 5, 6, 7, 8] (by decide) rfl
    refine va_calli (va_runV (As := [.int (xs (nI (i + 1)).toNatClampNeg)]) (rest := []) ⟨hx, hb, hml, hown, hts⟩ (c_X1_nudgeOf_v l D s.heap.size cA cL (wX h d cA z c ++ [(o, .inl (cL, 1, .inr (.inl (vp_updL g (0 : Int32).toNatClampNeg (z.2.1 (xs (nI (i + 1)).toNatClampNeg).toNatClampNeg).toInt64))))]) hm d2 (th) z c (xs (nI (i + 1)).toNatClampNeg) hw) (cwV 1 hts gL_law_X1_nudgeOf rfl rfl rfl (by decide +kernel) ⟨Nat.le_of_ble_eq_true rfl, Nat.le_of_ble_eq_true rfl⟩) ⟨zPre.blind, va_recv hK hP (ci := 1) (q0 := 0) rfl rfl, zPre.call (Nat.le_refl _) hP hD hK hE hS⟩ rfl rfl hl.1 rfl (lv_room (Nat.le_of_ble_eq_true rfl)) dL_law_733 hf0) hS (fun _ _ h9 => h9) (fun _ h9 => h9) (fun r_733 _ t H locs ht hvm h_733 hB hz1 hk1 hS => ?_)
    have h_733 : r_733 = (z.2.1 (xs (nI (i + 1)).toNatClampNeg).toNatClampNeg) := h_733
    subst h_733
    obtain ⟨hP, hD⟩ := hB
    rw [ht] at hP
    have hP : va_P D vwCl (wM hm d2 cA (0) z c ++ (wX h d cA z c ++ [(o, .inl (cL, 1, .inr (.inl (vp_updL g (0 : Int32).toNatClampNeg (z.2.1 (xs (nI (i + 1)).toNatClampNeg).toNatClampNeg).toInt64))))])) H := hP
    have hD : va_D (zA s.heap.size) (wM hm d2 cA (0) z c ++ (wX h d cA z c ++ [(o, .inl (cL, 1, .inr (.inl (vp_updL g (0 : Int32).toNatClampNeg (z.2.1 (xs (nI (i + 1)).toNatClampNeg).toNatClampNeg).toInt64))))])) := hD
    refine lv_istore (lv' := [(6, .int (z.2.1 (xs (nI (i + 1)).toNatClampNeg).toNatClampNeg)), (5, .int 0), (4, .int (nI i)), (3, .ref o), (2, .ref hm), (1, .ref h), (0, .ref b)]) hx hb dL_law_736 hl (by decide) rfl (fun ls hl => ?_)
    refine lv_aload_n hx hb dL_law_738 rfl (lv_at hl 4 rfl) ?_
    refine vp_callSi ((va_runV (As := []) (rest := []) ⟨hx, hb, hml, hown, hts⟩ (c_X1_thrown l D s.heap.size cA cL (wX h d cA z c ++ [(o, .inl (cL, 1, .inr (.inl (vp_updL g (0 : Int32).toNatClampNeg (z.2.1 (xs (nI (i + 1)).toNatClampNeg).toNatClampNeg).toInt64))))]) hm d2 (0) z c  ) (cwV 0 hts gL_law_X1_thrown rfl rfl rfl (by decide +kernel) ⟨Nat.le_of_ble_eq_true rfl, Nat.le_of_ble_eq_true rfl⟩) ⟨zPre.blind, va_recv hK hP (ci := 1) (q0 := 0) rfl rfl, zPre.call (Nat.le_refl _) hP hD hK hE hS⟩ rfl rfl hl.1 rfl (lv_room (Nat.le_of_ble_eq_true rfl)) dL_law_739 hf0).run) (fun r_739 h_739 => ?_)
    have h_739 : r_739 = 0 := h_739
    subst h_739
    refine lv_iload hx hb dL_law_742 (lv_at hl 1 rfl) ?_
    refine lv_icmp_eq (tgt := 749) hx hb dL_law_744 (by decide) (fun _ => ?_) (fun c_744 => absurd c_744 (by decide))
    refine lv_iload hx hb dL_law_749 (lv_at hl 1 rfl) ?_
    refine lv_if_ne (tgt := 766) hx hb dL_law_751 (by decide) (fun c_751 => absurd c_751 (by decide)) (fun _ => ?_)
    refine lv_aload_n hx hb dL_law_754 rfl (lv_at hl 3 rfl) ?_
    refine lv_iconst (v := 0) hx hb dL_law_755 (by decide) ?_
    have hP : va_P D vwCl (wX h d cA z c ++ ((o, .inl (cL, 1, .inr (.inl (vp_updL g (0 : Int32).toNatClampNeg (z.2.1 (xs (nI (i + 1)).toNatClampNeg).toNatClampNeg).toInt64)))) :: wM hm d2 cA (0) z c)) H := hP.sub [8, 9, 10, 11, 12, 13, 14, 15, 16, 0, 1, 2, 3, 4, 5, 6, 7] rfl
    have hD : va_D (zA s.heap.size) (wX h d cA z c ++ ((o, .inl (cL, 1, .inr (.inl (vp_updL g (0 : Int32).toNatClampNeg (z.2.1 (xs (nI (i + 1)).toNatClampNeg).toNatClampNeg).toInt64)))) :: wM hm d2 cA (0) z c)) := hD.sub [8, 9, 10, 11, 12, 13, 14, 15, 16, 0, 1, 2, 3, 4, 5, 6, 7] (by decide) rfl
    refine va_lald hx hb hK hP 8 1 rfl rfl (vp_in_nI (n := 0) (by decide) (by decide)) dL_law_756 ?_
    rw [show ((vp_updL g (0 : Int32).toNatClampNeg (z.2.1 (xs (nI (i + 1)).toNatClampNeg).toNatClampNeg).toInt64) (0 : Int32).toNatClampNeg : Int64) = (z.2.1 (xs (nI (i + 1)).toNatClampNeg).toNatClampNeg).toInt64 from pk_uLs]
    refine lv_iload hx hb dL_law_757 (lv_at hl 0 rfl) ?_
    refine lv_i2l hx hb dL_law_759 rfl ?_
    refine W.lcmp hx hb dL_law_760 ?_
    rw [show lg_cmp ((z.2.1 (xs (nI (i + 1)).toNatClampNeg).toNatClampNeg).toInt64) ((z.2.1 (xs (nI (i + 1)).toNatClampNeg).toNatClampNeg).toInt64) = 0 from zcmp _]
    refine lv_if_eq (tgt := 766) hx hb dL_law_761 (by decide) (fun _ => ?_) (fun c_761 => absurd c_761 (by decide))
    refine lv_goto (tgt := 1254) hx hb dL_law_766 (by decide) ?_
    refine W.widen (k := cells + 1) (n := slots + 6) (by omega) (by omega) ?_
    exact kk z c (0) (vp_updL g (0 : Int32).toNatClampNeg (z.2.1 (xs (nI (i + 1)).toNatClampNeg).toNatClampNeg).toInt64) hc hz _ _ hP hD hS ls (lv_sub hl [2, 3, 4, 5, 6] rfl)
  · refine lv_aload_n hx hb dL_law_713 rfl (lv_at hl 3 rfl) ?_
    refine lv_aload_n hx hb dL_law_714 rfl (lv_at hl 4 rfl) ?_
    refine lv_iload hx hb dL_law_715 (lv_at hl 0 rfl) ?_
    refine lv_iconst (v := 1) hx hb dL_law_717 (by decide) ?_
    refine lv_iadd hx hb dL_law_718 ?_
    rw [show (((nI i) + 1) : Int32) = (nI (i + 1)) from (nI_add i 1)]
    refine va_sld hx hb hX hbl hbA hS (vp_in_nI (by omega) (by omega)) dL_law_719 ?_
    refine lv_aload_n hx hb dL_law_720 rfl (lv_at hl 1 rfl) ?_
    refine va_calli (vx_runSW (As := [.ref h, .int (xs (nI (i + 1)).toNatClampNeg), .ref o]) (rest := []) ⟨hx, hb, hml, hown, hts⟩ (c_L_nudgeOf_1 l hst D s.heap.size cA cL (wM hm d2 cA (th) z c) h d z c o g (xs (nI (i + 1)).toNatClampNeg) hw) (vx_cwSW 3 hts gL_law_L_nudgeOf rfl rfl rfl (by decide +kernel) ⟨Nat.le_of_ble_eq_true rfl, Nat.le_of_ble_eq_true rfl⟩) ⟨zPre.blind, zPre.call (Nat.le_refl _) hP hD hK hE hS⟩ rfl rfl hl.1 rfl (lv_room (Nat.le_of_ble_eq_true rfl)) dL_law_721 hf1) hS (fun _ _ h9 => h9) (fun _ h9 => h9) (fun r_721 _ t H locs ht hvm h_721 hB hz1 hk1 hS => ?_)
    have h_721 : r_721 = 1 := h_721
    subst h_721
    obtain ⟨hP, hD⟩ := hB
    rw [ht] at hP
    have hP : va_P D vwCl (wX h d cA z c ++ ((o, .inl (cL, 1, .inr (.inl g))) :: wM hm d2 cA (th) z c)) H := hP
    have hD : va_D (zA s.heap.size) (wX h d cA z c ++ ((o, .inl (cL, 1, .inr (.inl g))) :: wM hm d2 cA (th) z c)) := hD
    refine lv_istore (lv' := [(5, .int 1), (4, .int (nI i)), (3, .ref o), (2, .ref hm), (1, .ref h), (0, .ref b)]) hx hb dL_law_724 hl (by decide) rfl (fun ls hl => ?_)
    refine lv_aload_n hx hb dL_law_726 rfl (lv_at hl 3 rfl) ?_
    refine lv_aload_n hx hb dL_law_727 rfl (lv_at hl 5 rfl) ?_
    refine lv_iload hx hb dL_law_728 (lv_at hl 1 rfl) ?_
    refine lv_iconst (v := 1) hx hb dL_law_730 (by decide) ?_
    refine lv_iadd hx hb dL_law_731 ?_
    rw [show (((nI i) + 1) : Int32) = (nI (i + 1)) from (nI_add i 1)]
    refine va_sld hx hb hX hbl hbA hS (vp_in_nI (by omega) (by omega)) dL_law_732 ?_
    have hP : va_P D vwCl (wM hm d2 cA (th) z c ++ (wX h d cA z c ++ [(o, .inl (cL, 1, .inr (.inl g)))])) H := hP.sub [9, 10, 11, 12, 13, 14, 15, 16, 0, 1, 2, 3, 4, 5, 6, 7, 8] rfl
    have hD : va_D (zA s.heap.size) (wM hm d2 cA (th) z c ++ (wX h d cA z c ++ [(o, .inl (cL, 1, .inr (.inl g)))])) := hD.sub [9, 10, 11, 12, 13, 14, 15, 16, 0, 1, 2, 3, 4, 5, 6, 7, 8] (by decide) rfl
    refine va_calli (va_runV (As := [.int (xs (nI (i + 1)).toNatClampNeg)]) (rest := []) ⟨hx, hb, hml, hown, hts⟩ (c_X1_nudgeOf_1 l D s.heap.size cA cL (wX h d cA z c ++ [(o, .inl (cL, 1, .inr (.inl g)))]) hm d2 (th) z c (xs (nI (i + 1)).toNatClampNeg) hw) (cwV 1 hts gL_law_X1_nudgeOf rfl rfl rfl (by decide +kernel) ⟨Nat.le_of_ble_eq_true rfl, Nat.le_of_ble_eq_true rfl⟩) ⟨zPre.blind, va_recv hK hP (ci := 1) (q0 := 0) rfl rfl, zPre.call (Nat.le_refl _) hP hD hK hE hS⟩ rfl rfl hl.1 rfl (lv_room (Nat.le_of_ble_eq_true rfl)) dL_law_733 hf1) hS (fun _ _ h9 => h9) (fun _ h9 => h9) (fun r_733 _ t H locs ht hvm h_733 hB hz1 hk1 hS => ?_)
    have h_733 : r_733 = (0) := h_733
    subst h_733
    obtain ⟨hP, hD⟩ := hB
    rw [ht] at hP
    have hP : va_P D vwCl (wM hm d2 cA (1) z c ++ (wX h d cA z c ++ [(o, .inl (cL, 1, .inr (.inl g)))])) H := hP
    have hD : va_D (zA s.heap.size) (wM hm d2 cA (1) z c ++ (wX h d cA z c ++ [(o, .inl (cL, 1, .inr (.inl g)))])) := hD
    refine lv_istore (lv' := [(6, .int 0), (5, .int 1), (4, .int (nI i)), (3, .ref o), (2, .ref hm), (1, .ref h), (0, .ref b)]) hx hb dL_law_736 hl (by decide) rfl (fun ls hl => ?_)
    refine lv_aload_n hx hb dL_law_738 rfl (lv_at hl 4 rfl) ?_
    refine vp_callSi ((va_runV (As := []) (rest := []) ⟨hx, hb, hml, hown, hts⟩ (c_X1_thrown l D s.heap.size cA cL (wX h d cA z c ++ [(o, .inl (cL, 1, .inr (.inl g)))]) hm d2 (1) z c  ) (cwV 0 hts gL_law_X1_thrown rfl rfl rfl (by decide +kernel) ⟨Nat.le_of_ble_eq_true rfl, Nat.le_of_ble_eq_true rfl⟩) ⟨zPre.blind, va_recv hK hP (ci := 1) (q0 := 0) rfl rfl, zPre.call (Nat.le_refl _) hP hD hK hE hS⟩ rfl rfl hl.1 rfl (lv_room (Nat.le_of_ble_eq_true rfl)) dL_law_739 hf1).run) (fun r_739 h_739 => ?_)
    have h_739 : r_739 = 1 := h_739
    subst h_739
    refine lv_iload hx hb dL_law_742 (lv_at hl 1 rfl) ?_
    refine lv_icmp_eq (tgt := 749) hx hb dL_law_744 (by decide) (fun _ => ?_) (fun c_744 => absurd c_744 (by decide))
    refine lv_iload hx hb dL_law_749 (lv_at hl 1 rfl) ?_
    refine lv_if_ne (tgt := 766) hx hb dL_law_751 (by decide) (fun _ => ?_) (fun c_751 => absurd c_751 (by decide))
    refine lv_goto (tgt := 1254) hx hb dL_law_766 (by decide) ?_
    have hP : va_P D vwCl (wX h d cA z c ++ ((o, .inl (cL, 1, .inr (.inl g))) :: wM hm d2 cA (1) z c)) H := hP.sub [8, 9, 10, 11, 12, 13, 14, 15, 16, 0, 1, 2, 3, 4, 5, 6, 7] rfl
    have hD : va_D (zA s.heap.size) (wX h d cA z c ++ ((o, .inl (cL, 1, .inr (.inl g))) :: wM hm d2 cA (1) z c)) := hD.sub [8, 9, 10, 11, 12, 13, 14, 15, 16, 0, 1, 2, 3, 4, 5, 6, 7] (by decide) rfl
    refine W.widen (k := cells + 1) (n := slots + 6) (by omega) (by omega) ?_
    exact kk z c (1) g hc hz _ _ hP hD hS ls (lv_sub hl [2, 3, 4, 5, 6] rfl)

set_option maxHeartbeats 8000000 in
set_option maxRecDepth 100000 in
theorem law_11 {p : Program} {l : Launch} {e : Env} {s : State} {m : MethodId} {below : List Frame} {meth : Method} {cd : Code} {b L : Nat} {xs : Nat → Int32} {D : va_G} {cA cL : ClassId} (C9 : zC9 p l s m meth cd b L xs D cA cL) {h hm o : Nat} {d d2 : Nat → Nat} {z : S7} {c : C5} {th : Int32} {g : Nat → Int64} (hc : okC c) (hz : okZ z) {i : Nat} (hi : i + 5 ≤ L) {cells slots : Nat} (hce : cells + 1 ≤ 1045) (hsl : slots + 6 ≤ 8314) (kk : zKK p l e s m below meth cd b D cA cL h hm o d d2 i cells slots) {H : Heap} {locs : List Loc} (hP : va_P D vwCl (zLW h d hm d2 o cA cL z c th g) H) (hD : va_D (zA s.heap.size) (zLW h d hm d2 o cA cL z c th g)) (hS : va_S (zA s.heap.size) s.heap H locs) {ls : Array Slot} (hl : lv_has ls 7 [(4, .int (nI i)), (3, .ref o), (2, .ref hm), (1, .ref h), (0, .ref b)]) : W p l e room_1 s m #[Value.ref b] below meth cd H locs cells slots (lw_Z below #[Value.ref b] s) (F0 m 769 ls []) := by
  obtain ⟨hst, hx, hb, hml, hown, hts, hX, hbl, hK, hE, hL⟩ := C9
  have hbA : ¬ zA s.heap.size b := Nat.not_le.mpr hbl
  have hf0 : cells + 0 ≤ room_1.cells ∧ slots + 0 ≤ room_1.slots := ⟨by show cells + 0 ≤ 1045; omega, by show slots + 0 ≤ 8314; omega⟩
  have hf1 : cells + 1 ≤ room_1.cells ∧ slots + 6 ≤ room_1.slots := ⟨hce, hsl⟩
  by_cases hw : zw (xs (nI (i + 1)).toNatClampNeg)
  · refine lv_aload_n hx hb dL_law_769 rfl (lv_at hl 3 rfl) ?_
    refine lv_aload_n hx hb dL_law_770 rfl (lv_at hl 4 rfl) ?_
    refine lv_iload hx hb dL_law_771 (lv_at hl 0 rfl) ?_
    refine lv_iconst (v := 1) hx hb dL_law_773 (by decide) ?_
    refine lv_iadd hx hb dL_law_774 ?_
    rw [show (((nI i) + 1) : Int32) = (nI (i + 1)) from (nI_add i 1)]
    refine va_sld hx hb hX hbl hbA hS (vp_in_nI (by omega) (by omega)) dL_law_775 ?_
    refine lv_aload_n hx hb dL_law_776 rfl (lv_at hl 1 rfl) ?_
    refine va_calli (vx_runSW (As := [.ref h, .int (xs (nI (i + 1)).toNatClampNeg), .ref o]) (rest := []) ⟨hx, hb, hml, hown, hts⟩ (c_L_framesOf_v l D s.heap.size cA cL (wM hm d2 cA (th) z c) h d z c o g (xs (nI (i + 1)).toNatClampNeg) hw) (vx_cwSW 3 hts gL_law_L_framesOf rfl rfl rfl (by decide +kernel) ⟨Nat.le_of_ble_eq_true rfl, Nat.le_of_ble_eq_true rfl⟩) ⟨zPre.blind, zPre.call (Nat.le_refl _) hP hD hK hE hS⟩ rfl rfl hl.1 rfl (lv_room (Nat.le_of_ble_eq_true rfl)) dL_law_777 hf0) hS (fun _ _ h9 => h9) (fun _ h9 => h9) (fun r_777 _ t H locs ht hvm h_777 hB hz1 hk1 hS => ?_)
    have h_777 : r_777 = 0 := h_777
    subst h_777
    obtain ⟨hP, hD⟩ := hB
    rw [ht] at hP
    have hP : va_P D vwCl (wX h d cA z c ++ ((o, .inl (cL, 1, .inr (.inl (vp_updL g (0 : Int32).toNatClampNeg (z.2.2.1 (xs (nI (i + 1)).toNatClampNeg).toNatClampNeg).toInt64)))) :: wM hm d2 cA (th) z c)) H := hP
    have hD : va_D (zA s.heap.size) (wX h d cA z c ++ ((o, .inl (cL, 1, .inr (.inl (vp_updL g (0 : Int32).toNatClampNeg (z.2.2.1 (xs (nI (i + 1)).toNatClampNeg).toNatClampNeg).toInt64)))) :: wM hm d2 cA (th) z c)) := hD
    refine lv_istore (lv' := [(5, .int 0), (4, .int (nI i)), (3, .ref o), (2, .ref hm), (1, .ref h), (0, .ref b)]) hx hb dL_law_780 hl (by decide) rfl (fun ls hl => ?_)
    refine lv_aload_n hx hb dL_law_782 rfl (lv_at hl 3 rfl) ?_
    refine lv_aload_n hx hb dL_law_783 rfl (lv_at hl 5 rfl) ?_
    refine lv_iload hx hb dL_law_784 (lv_at hl 1 rfl) ?_
    refine lv_iconst (v := 1) hx hb dL_law_786 (by decide) ?_
    refine lv_iadd hx hb dL_law_787 ?_
    rw [show (((nI i) + 1) : Int32) = (nI (i + 1)) from (nI_add i 1)]
    refine va_sld hx hb hX hbl hbA hS (vp_in_nI (by omega) (by omega)) dL_law_788 ?_
    have hP : va_P D vwCl (wM hm d2 cA (th) z c ++ (wX h d cA z c ++ [(o, .inl (cL, 1, .inr (.inl (vp_updL g (0 : Int32).toNatClampNeg (z.2.2.1 (xs (nI (i + 1)).toNatClampNeg).toNatClampNeg).toInt64))))])) H := hP.sub [9, 10, 11, 12, 13, 14, 15, 16, 0, 1, 2, 3, 4, 5, 6, 7, 8] rfl
    have hD : va_D (zA s.heap.size) (wM hm d2 cA (th) z c ++ (wX h d cA z c ++ [(o, .inl (cL, 1, .inr (.inl (vp_updL g (0 : Int32).toNatClampNeg (z.2.2.1 (xs (nI (i + 1)).toNatClampNeg).toNatClampNeg).toInt64))))])) := hD.sub [9, 10, 11, 12, 13, 14, 15, 16, 0, 1, 2, 3, 4, 5, 6, 7, 8] (by decide) rfl
    refine va_calli (va_runV (As := [.int (xs (nI (i + 1)).toNatClampNeg)]) (rest := []) ⟨hx, hb, hml, hown, hts⟩ (c_X1_framesOf_v l D s.heap.size cA cL (wX h d cA z c ++ [(o, .inl (cL, 1, .inr (.inl (vp_updL g (0 : Int32).toNatClampNeg (z.2.2.1 (xs (nI (i + 1)).toNatClampNeg).toNatClampNeg).toInt64))))]) hm d2 (th) z c (xs (nI (i + 1)).toNatClampNeg) hw) (cwV 1 hts gL_law_X1_framesOf rfl rfl rfl (by decide +kernel) ⟨Nat.le_of_ble_eq_true rfl, Nat.le_of_ble_eq_true rfl⟩) ⟨zPre.blind, va_recv hK hP (ci := 1) (q0 := 0) rfl rfl, zPre.call (Nat.le_refl _) hP hD hK hE hS⟩ rfl rfl hl.1 rfl (lv_room (Nat.le_of_ble_eq_true rfl)) dL_law_789 hf0) hS (fun _ _ h9 => h9) (fun _ h9 => h9) (fun r_789 _ t H locs ht hvm h_789 hB hz1 hk1 hS => ?_)
    have h_789 : r_789 = (z.2.2.1 (xs (nI (i + 1)).toNatClampNeg).toNatClampNeg) := h_789
    subst h_789
    obtain ⟨hP, hD⟩ := hB
    rw [ht] at hP
    have hP : va_P D vwCl (wM hm d2 cA (0) z c ++ (wX h d cA z c ++ [(o, .inl (cL, 1, .inr (.inl (vp_updL g (0 : Int32).toNatClampNeg (z.2.2.1 (xs (nI (i + 1)).toNatClampNeg).toNatClampNeg).toInt64))))])) H := hP
    have hD : va_D (zA s.heap.size) (wM hm d2 cA (0) z c ++ (wX h d cA z c ++ [(o, .inl (cL, 1, .inr (.inl (vp_updL g (0 : Int32).toNatClampNeg (z.2.2.1 (xs (nI (i + 1)).toNatClampNeg).toNatClampNeg).toInt64))))])) := hD
    refine lv_istore (lv' := [(6, .int (z.2.2.1 (xs (nI (i + 1)).toNatClampNeg).toNatClampNeg)), (5, .int 0), (4, .int (nI i)), (3, .ref o), (2, .ref hm), (1, .ref h), (0, .ref b)]) hx hb dL_law_792 hl (by decide) rfl (fun ls hl => ?_)
    refine lv_aload_n hx hb dL_law_794 rfl (lv_at hl 4 rfl) ?_
    refine vp_callSi ((va_runV (As := []) (rest := []) ⟨hx, hb, hml, hown, hts⟩ (c_X1_thrown l D s.heap.size cA cL (wX h d cA z c ++ [(o, .inl (cL, 1, .inr (.inl (vp_updL g (0 : Int32).toNatClampNeg (z.2.2.1 (xs (nI (i + 1)).toNatClampNeg).toNatClampNeg).toInt64))))]) hm d2 (0) z c  ) (cwV 0 hts gL_law_X1_thrown rfl rfl rfl (by decide +kernel) ⟨Nat.le_of_ble_eq_true rfl, Nat.le_of_ble_eq_true rfl⟩) ⟨zPre.blind, va_recv hK hP (ci := 1) (q0 := 0) rfl rfl, zPre.call (Nat.le_refl _) hP hD hK hE hS⟩ rfl rfl hl.1 rfl (lv_room (Nat.le_of_ble_eq_true rfl)) dL_law_795 hf0).run) (fun r_795 h_795 => ?_)
    have h_795 : r_795 = 0 := h_795
    subst h_795
    refine lv_iload hx hb dL_law_798 (lv_at hl 1 rfl) ?_
    refine lv_icmp_eq (tgt := 805) hx hb dL_law_800 (by decide) (fun _ => ?_) (fun c_800 => absurd c_800 (by decide))
    refine lv_iload hx hb dL_law_805 (lv_at hl 1 rfl) ?_
    refine lv_if_ne (tgt := 822) hx hb dL_law_807 (by decide) (fun c_807 => absurd c_807 (by decide)) (fun _ => ?_)
    refine lv_aload_n hx hb dL_law_810 rfl (lv_at hl 3 rfl) ?_
    refine lv_iconst (v := 0) hx hb dL_law_811 (by decide) ?_
    have hP : va_P D vwCl (wX h d cA z c ++ ((o, .inl (cL, 1, .inr (.inl (vp_updL g (0 : Int32).toNatClampNeg (z.2.2.1 (xs (nI (i + 1)).toNatClampNeg).toNatClampNeg).toInt64)))) :: wM hm d2 cA (0) z c)) H := hP.sub [8, 9, 10, 11, 12, 13, 14, 15, 16, 0, 1, 2, 3, 4, 5, 6, 7] rfl
    have hD : va_D (zA s.heap.size) (wX h d cA z c ++ ((o, .inl (cL, 1, .inr (.inl (vp_updL g (0 : Int32).toNatClampNeg (z.2.2.1 (xs (nI (i + 1)).toNatClampNeg).toNatClampNeg).toInt64)))) :: wM hm d2 cA (0) z c)) := hD.sub [8, 9, 10, 11, 12, 13, 14, 15, 16, 0, 1, 2, 3, 4, 5, 6, 7] (by decide) rfl
    refine va_lald hx hb hK hP 8 1 rfl rfl (vp_in_nI (n := 0) (by decide) (by decide)) dL_law_812 ?_
    rw [show ((vp_updL g (0 : Int32).toNatClampNeg (z.2.2.1 (xs (nI (i + 1)).toNatClampNeg).toNatClampNeg).toInt64) (0 : Int32).toNatClampNeg : Int64) = (z.2.2.1 (xs (nI (i + 1)).toNatClampNeg).toNatClampNeg).toInt64 from pk_uLs]
    refine lv_iload hx hb dL_law_813 (lv_at hl 0 rfl) ?_
    refine lv_i2l hx hb dL_law_815 rfl ?_
    refine W.lcmp hx hb dL_law_816 ?_
    rw [show lg_cmp ((z.2.2.1 (xs (nI (i + 1)).toNatClampNeg).toNatClampNeg).toInt64) ((z.2.2.1 (xs (nI (i + 1)).toNatClampNeg).toNatClampNeg).toInt64) = 0 from zcmp _]
    refine lv_if_eq (tgt := 822) hx hb dL_law_817 (by decide) (fun _ => ?_) (fun c_817 => absurd c_817 (by decide))
    refine lv_goto (tgt := 1254) hx hb dL_law_822 (by decide) ?_
    refine W.widen (k := cells + 1) (n := slots + 6) (by omega) (by omega) ?_
    exact kk z c (0) (vp_updL g (0 : Int32).toNatClampNeg (z.2.2.1 (xs (nI (i + 1)).toNatClampNeg).toNatClampNeg).toInt64) hc hz _ _ hP hD hS ls (lv_sub hl [2, 3, 4, 5, 6] rfl)
  · refine lv_aload_n hx hb dL_law_769 rfl (lv_at hl 3 rfl) ?_
    refine lv_aload_n hx hb dL_law_770 rfl (lv_at hl 4 rfl) ?_
    refine lv_iload hx hb dL_law_771 (lv_at hl 0 rfl) ?_
    refine lv_iconst (v := 1) hx hb dL_law_773 (by decide) ?_
    refine lv_iadd hx hb dL_law_774 ?_
    rw [show (((nI i) + 1) : Int32) = (nI (i + 1)) from (nI_add i 1)]
    refine va_sld hx hb hX hbl hbA hS (vp_in_nI (by omega) (by omega)) dL_law_775 ?_
    refine lv_aload_n hx hb dL_law_776 rfl (lv_at hl 1 rfl) ?_
    refine va_calli (vx_runSW (As := [.ref h, .int (xs (nI (i + 1)).toNatClampNeg), .ref o]) (rest := []) ⟨hx, hb, hml, hown, hts⟩ (c_L_framesOf_1 l hst D s.heap.size cA cL (wM hm d2 cA (th) z c) h d z c o g (xs (nI (i + 1)).toNatClampNeg) hw) (vx_cwSW 3 hts gL_law_L_framesOf rfl rfl rfl (by decide +kernel) ⟨Nat.le_of_ble_eq_true rfl, Nat.le_of_ble_eq_true rfl⟩) ⟨zPre.blind, zPre.call (Nat.le_refl _) hP hD hK hE hS⟩ rfl rfl hl.1 rfl (lv_room (Nat.le_of_ble_eq_true rfl)) dL_law_777 hf1) hS (fun _ _ h9 => h9) (fun _ h9 => h9) (fun r_777 _ t H locs ht hvm h_777 hB hz1 hk1 hS => ?_)
    have h_777 : r_777 = 1 := h_777
    subst h_777
    obtain ⟨hP, hD⟩ := hB
    rw [ht] at hP
    have hP : va_P D vwCl (wX h d cA z c ++ ((o, .inl (cL, 1, .inr (.inl g))) :: wM hm d2 cA (th) z c)) H := hP
    have hD : va_D (zA s.heap.size) (wX h d cA z c ++ ((o, .inl (cL, 1, .inr (.inl g))) :: wM hm d2 cA (th) z c)) := hD
    refine lv_istore (lv' := [(5, .int 1), (4, .int (nI i)), (3, .ref o), (2, .ref hm), (1, .ref h), (0, .ref b)]) hx hb dL_law_780 hl (by decide) rfl (fun ls hl => ?_)
    refine lv_aload_n hx hb dL_law_782 rfl (lv_at hl 3 rfl) ?_
    refine lv_aload_n hx hb dL_law_783 rfl (lv_at hl 5 rfl) ?_
    refine lv_iload hx hb dL_law_784 (lv_at hl 1 rfl) ?_
    refine lv_iconst (v := 1) hx hb dL_law_786 (by decide) ?_
    refine lv_iadd hx hb dL_law_787 ?_
    rw [show (((nI i) + 1) : Int32) = (nI (i + 1)) from (nI_add i 1)]
    refine va_sld hx hb hX hbl hbA hS (vp_in_nI (by omega) (by omega)) dL_law_788 ?_
    have hP : va_P D vwCl (wM hm d2 cA (th) z c ++ (wX h d cA z c ++ [(o, .inl (cL, 1, .inr (.inl g)))])) H := hP.sub [9, 10, 11, 12, 13, 14, 15, 16, 0, 1, 2, 3, 4, 5, 6, 7, 8] rfl
    have hD : va_D (zA s.heap.size) (wM hm d2 cA (th) z c ++ (wX h d cA z c ++ [(o, .inl (cL, 1, .inr (.inl g)))])) := hD.sub [9, 10, 11, 12, 13, 14, 15, 16, 0, 1, 2, 3, 4, 5, 6, 7, 8] (by decide) rfl
    refine va_calli (va_runV (As := [.int (xs (nI (i + 1)).toNatClampNeg)]) (rest := []) ⟨hx, hb, hml, hown, hts⟩ (c_X1_framesOf_1 l D s.heap.size cA cL (wX h d cA z c ++ [(o, .inl (cL, 1, .inr (.inl g)))]) hm d2 (th) z c (xs (nI (i + 1)).toNatClampNeg) hw) (cwV 1 hts gL_law_X1_framesOf rfl rfl rfl (by decide +kernel) ⟨Nat.le_of_ble_eq_true rfl, Nat.le_of_ble_eq_true rfl⟩) ⟨zPre.blind, va_recv hK hP (ci := 1) (q0 := 0) rfl rfl, zPre.call (Nat.le_refl _) hP hD hK hE hS⟩ rfl rfl hl.1 rfl (lv_room (Nat.le_of_ble_eq_true rfl)) dL_law_789 hf1) hS (fun _ _ h9 => h9) (fun _ h9 => h9) (fun r_789 _ t H locs ht hvm h_789 hB hz1 hk1 hS => ?_)
    have h_789 : r_789 = (0) := h_789
    subst h_789
    obtain ⟨hP, hD⟩ := hB
    rw [ht] at hP
    have hP : va_P D vwCl (wM hm d2 cA (1) z c ++ (wX h d cA z c ++ [(o, .inl (cL, 1, .inr (.inl g)))])) H := hP
    have hD : va_D (zA s.heap.size) (wM hm d2 cA (1) z c ++ (wX h d cA z c ++ [(o, .inl (cL, 1, .inr (.inl g)))])) := hD
    refine lv_istore (lv' := [(6, .int 0), (5, .int 1), (4, .int (nI i)), (3, .ref o), (2, .ref hm), (1, .ref h), (0, .ref b)]) hx hb dL_law_792 hl (by decide) rfl (fun ls hl => ?_)
    refine lv_aload_n hx hb dL_law_794 rfl (lv_at hl 4 rfl) ?_
    refine vp_callSi ((va_runV (As := []) (rest := []) ⟨hx, hb, hml, hown, hts⟩ (c_X1_thrown l D s.heap.size cA cL (wX h d cA z c ++ [(o, .inl (cL, 1, .inr (.inl g)))]) hm d2 (1) z c  ) (cwV 0 hts gL_law_X1_thrown rfl rfl rfl (by decide +kernel) ⟨Nat.le_of_ble_eq_true rfl, Nat.le_of_ble_eq_true rfl⟩) ⟨zPre.blind, va_recv hK hP (ci := 1) (q0 := 0) rfl rfl, zPre.call (Nat.le_refl _) hP hD hK hE hS⟩ rfl rfl hl.1 rfl (lv_room (Nat.le_of_ble_eq_true rfl)) dL_law_795 hf1).run) (fun r_795 h_795 => ?_)
    have h_795 : r_795 = 1 := h_795
    subst h_795
    refine lv_iload hx hb dL_law_798 (lv_at hl 1 rfl) ?_
    refine lv_icmp_eq (tgt := 805) hx hb dL_law_800 (by decide) (fun _ => ?_) (fun c_800 => absurd c_800 (by decide))
    refine lv_iload hx hb dL_law_805 (lv_at hl 1 rfl) ?_
    refine lv_if_ne (tgt := 822) hx hb dL_law_807 (by decide) (fun _ => ?_) (fun c_807 => absurd c_807 (by decide))
    refine lv_goto (tgt := 1254) hx hb dL_law_822 (by decide) ?_
    have hP : va_P D vwCl (wX h d cA z c ++ ((o, .inl (cL, 1, .inr (.inl g))) :: wM hm d2 cA (1) z c)) H := hP.sub [8, 9, 10, 11, 12, 13, 14, 15, 16, 0, 1, 2, 3, 4, 5, 6, 7] rfl
    have hD : va_D (zA s.heap.size) (wX h d cA z c ++ ((o, .inl (cL, 1, .inr (.inl g))) :: wM hm d2 cA (1) z c)) := hD.sub [8, 9, 10, 11, 12, 13, 14, 15, 16, 0, 1, 2, 3, 4, 5, 6, 7] (by decide) rfl
    refine W.widen (k := cells + 1) (n := slots + 6) (by omega) (by omega) ?_
    exact kk z c (1) g hc hz _ _ hP hD hS ls (lv_sub hl [2, 3, 4, 5, 6] rfl)

set_option maxHeartbeats 8000000 in
set_option maxRecDepth 100000 in
theorem law_12 {p : Program} {l : Launch} {e : Env} {s : State} {m : MethodId} {below : List Frame} {meth : Method} {cd : Code} {b L : Nat} {xs : Nat → Int32} {D : va_G} {cA cL : ClassId} (C9 : zC9 p l s m meth cd b L xs D cA cL) {h hm o : Nat} {d d2 : Nat → Nat} {z : S7} {c : C5} {th : Int32} {g : Nat → Int64} (hc : okC c) (hz : okZ z) {i : Nat} (hi : i + 5 ≤ L) {cells slots : Nat} (hce : cells + 1 ≤ 1045) (hsl : slots + 6 ≤ 8314) (kk : zKK p l e s m below meth cd b D cA cL h hm o d d2 i cells slots) {H : Heap} {locs : List Loc} (hP : va_P D vwCl (zLW h d hm d2 o cA cL z c th g) H) (hD : va_D (zA s.heap.size) (zLW h d hm d2 o cA cL z c th g)) (hS : va_S (zA s.heap.size) s.heap H locs) {ls : Array Slot} (hl : lv_has ls 7 [(4, .int (nI i)), (3, .ref o), (2, .ref hm), (1, .ref h), (0, .ref b)]) : W p l e room_1 s m #[Value.ref b] below meth cd H locs cells slots (lw_Z below #[Value.ref b] s) (F0 m 825 ls []) := by
  obtain ⟨hst, hx, hb, hml, hown, hts, hX, hbl, hK, hE, hL⟩ := C9
  have hbA : ¬ zA s.heap.size b := Nat.not_le.mpr hbl
  have hf0 : cells + 0 ≤ room_1.cells ∧ slots + 0 ≤ room_1.slots := ⟨by show cells + 0 ≤ 1045; omega, by show slots + 0 ≤ 8314; omega⟩
  have hf1 : cells + 1 ≤ room_1.cells ∧ slots + 6 ≤ room_1.slots := ⟨hce, hsl⟩
  by_cases hw : zw (xs (nI (i + 1)).toNatClampNeg)
  · refine lv_aload_n hx hb dL_law_825 rfl (lv_at hl 3 rfl) ?_
    refine lv_aload_n hx hb dL_law_826 rfl (lv_at hl 4 rfl) ?_
    refine lv_iload hx hb dL_law_827 (lv_at hl 0 rfl) ?_
    refine lv_iconst (v := 1) hx hb dL_law_829 (by decide) ?_
    refine lv_iadd hx hb dL_law_830 ?_
    rw [show (((nI i) + 1) : Int32) = (nI (i + 1)) from (nI_add i 1)]
    refine va_sld hx hb hX hbl hbA hS (vp_in_nI (by omega) (by omega)) dL_law_831 ?_
    refine lv_aload_n hx hb dL_law_832 rfl (lv_at hl 1 rfl) ?_
    refine va_calli (vx_runSW (As := [.ref h, .int (xs (nI (i + 1)).toNatClampNeg), .ref o]) (rest := []) ⟨hx, hb, hml, hown, hts⟩ (c_L_changesOf_v l D s.heap.size cA cL (wM hm d2 cA (th) z c) h d z c o g (xs (nI (i + 1)).toNatClampNeg) hw) (vx_cwSW 3 hts gL_law_L_changesOf rfl rfl rfl (by decide +kernel) ⟨Nat.le_of_ble_eq_true rfl, Nat.le_of_ble_eq_true rfl⟩) ⟨zPre.blind, zPre.call (Nat.le_refl _) hP hD hK hE hS⟩ rfl rfl hl.1 rfl (lv_room (Nat.le_of_ble_eq_true rfl)) dL_law_833 hf0) hS (fun _ _ h9 => h9) (fun _ h9 => h9) (fun r_833 _ t H locs ht hvm h_833 hB hz1 hk1 hS => ?_)
    have h_833 : r_833 = 0 := h_833
    subst h_833
    obtain ⟨hP, hD⟩ := hB
    rw [ht] at hP
    have hP : va_P D vwCl (wX h d cA z c ++ ((o, .inl (cL, 1, .inr (.inl (vp_updL g (0 : Int32).toNatClampNeg (z.2.2.2.1 (xs (nI (i + 1)).toNatClampNeg).toNatClampNeg).toInt64)))) :: wM hm d2 cA (th) z c)) H := hP
    have hD : va_D (zA s.heap.size) (wX h d cA z c ++ ((o, .inl (cL, 1, .inr (.inl (vp_updL g (0 : Int32).toNatClampNeg (z.2.2.2.1 (xs (nI (i + 1)).toNatClampNeg).toNatClampNeg).toInt64)))) :: wM hm d2 cA (th) z c)) := hD
    refine lv_istore (lv' := [(5, .int 0), (4, .int (nI i)), (3, .ref o), (2, .ref hm), (1, .ref h), (0, .ref b)]) hx hb dL_law_836 hl (by decide) rfl (fun ls hl => ?_)
    refine lv_aload_n hx hb dL_law_838 rfl (lv_at hl 3 rfl) ?_
    refine lv_aload_n hx hb dL_law_839 rfl (lv_at hl 5 rfl) ?_
    refine lv_iload hx hb dL_law_840 (lv_at hl 1 rfl) ?_
    refine lv_iconst (v := 1) hx hb dL_law_842 (by decide) ?_
    refine lv_iadd hx hb dL_law_843 ?_
    rw [show (((nI i) + 1) : Int32) = (nI (i + 1)) from (nI_add i 1)]
    refine va_sld hx hb hX hbl hbA hS (vp_in_nI (by omega) (by omega)) dL_law_844 ?_
    have hP : va_P D vwCl (wM hm d2 cA (th) z c ++ (wX h d cA z c ++ [(o, .inl (cL, 1, .inr (.inl (vp_updL g (0 : Int32).toNatClampNeg (z.2.2.2.1 (xs (nI (i + 1)).toNatClampNeg).toNatClampNeg).toInt64))))])) H := hP.sub [9, 10, 11, 12, 13, 14, 15, 16, 0, 1, 2, 3, 4, 5, 6, 7, 8] rfl
    have hD : va_D (zA s.heap.size) (wM hm d2 cA (th) z c ++ (wX h d cA z c ++ [(o, .inl (cL, 1, .inr (.inl (vp_updL g (0 : Int32).toNatClampNeg (z.2.2.2.1 (xs (nI (i + 1)).toNatClampNeg).toNatClampNeg).toInt64))))])) := hD.sub [9, 10, 11, 12, 13, 14, 15, 16, 0, 1, 2, 3, 4, 5, 6, 7, 8] (by decide) rfl
    refine va_calli (va_runV (As := [.int (xs (nI (i + 1)).toNatClampNeg)]) (rest := []) ⟨hx, hb, hml, hown, hts⟩ (c_X1_changesOf_v l D s.heap.size cA cL (wX h d cA z c ++ [(o, .inl (cL, 1, .inr (.inl (vp_updL g (0 : Int32).toNatClampNeg (z.2.2.2.1 (xs (nI (i + 1)).toNatClampNeg).toNatClampNeg).toInt64))))]) hm d2 (th) z c (xs (nI (i + 1)).toNatClampNeg) hw) (cwV 1 hts gL_law_X1_changesOf rfl rfl rfl (by decide +kernel) ⟨Nat.le_of_ble_eq_true rfl, Nat.le_of_ble_eq_true rfl⟩) ⟨zPre.blind, va_recv hK hP (ci := 1) (q0 := 0) rfl rfl, zPre.call (Nat.le_refl _) hP hD hK hE hS⟩ rfl rfl hl.1 rfl (lv_room (Nat.le_of_ble_eq_true rfl)) dL_law_845 hf0) hS (fun _ _ h9 => h9) (fun _ h9 => h9) (fun r_845 _ t H locs ht hvm h_845 hB hz1 hk1 hS => ?_)
    have h_845 : r_845 = (z.2.2.2.1 (xs (nI (i + 1)).toNatClampNeg).toNatClampNeg) := h_845
    subst h_845
    obtain ⟨hP, hD⟩ := hB
    rw [ht] at hP
    have hP : va_P D vwCl (wM hm d2 cA (0) z c ++ (wX h d cA z c ++ [(o, .inl (cL, 1, .inr (.inl (vp_updL g (0 : Int32).toNatClampNeg (z.2.2.2.1 (xs (nI (i + 1)).toNatClampNeg).toNatClampNeg).toInt64))))])) H := hP
    have hD : va_D (zA s.heap.size) (wM hm d2 cA (0) z c ++ (wX h d cA z c ++ [(o, .inl (cL, 1, .inr (.inl (vp_updL g (0 : Int32).toNatClampNeg (z.2.2.2.1 (xs (nI (i + 1)).toNatClampNeg).toNatClampNeg).toInt64))))])) := hD
    refine lv_istore (lv' := [(6, .int (z.2.2.2.1 (xs (nI (i + 1)).toNatClampNeg).toNatClampNeg)), (5, .int 0), (4, .int (nI i)), (3, .ref o), (2, .ref hm), (1, .ref h), (0, .ref b)]) hx hb dL_law_848 hl (by decide) rfl (fun ls hl => ?_)
    refine lv_aload_n hx hb dL_law_850 rfl (lv_at hl 4 rfl) ?_
    refine vp_callSi ((va_runV (As := []) (rest := []) ⟨hx, hb, hml, hown, hts⟩ (c_X1_thrown l D s.heap.size cA cL (wX h d cA z c ++ [(o, .inl (cL, 1, .inr (.inl (vp_updL g (0 : Int32).toNatClampNeg (z.2.2.2.1 (xs (nI (i + 1)).toNatClampNeg).toNatClampNeg).toInt64))))]) hm d2 (0) z c  ) (cwV 0 hts gL_law_X1_thrown rfl rfl rfl (by decide +kernel) ⟨Nat.le_of_ble_eq_true rfl, Nat.le_of_ble_eq_true rfl⟩) ⟨zPre.blind, va_recv hK hP (ci := 1) (q0 := 0) rfl rfl, zPre.call (Nat.le_refl _) hP hD hK hE hS⟩ rfl rfl hl.1 rfl (lv_room (Nat.le_of_ble_eq_true rfl)) dL_law_851 hf0).run) (fun r_851 h_851 => ?_)
    have h_851 : r_851 = 0 := h_851
    subst h_851
    refine lv_iload hx hb dL_law_854 (lv_at hl 1 rfl) ?_
    refine lv_icmp_eq (tgt := 861) hx hb dL_law_856 (by decide) (fun _ => ?_) (fun c_856 => absurd c_856 (by decide))
    refine lv_iload hx hb dL_law_861 (lv_at hl 1 rfl) ?_
    refine lv_if_ne (tgt := 878) hx hb dL_law_863 (by decide) (fun c_863 => absurd c_863 (by decide)) (fun _ => ?_)
    refine lv_aload_n hx hb dL_law_866 rfl (lv_at hl 3 rfl) ?_
    refine lv_iconst (v := 0) hx hb dL_law_867 (by decide) ?_
    have hP : va_P D vwCl (wX h d cA z c ++ ((o, .inl (cL, 1, .inr (.inl (vp_updL g (0 : Int32).toNatClampNeg (z.2.2.2.1 (xs (nI (i + 1)).toNatClampNeg).toNatClampNeg).toInt64)))) :: wM hm d2 cA (0) z c)) H := hP.sub [8, 9, 10, 11, 12, 13, 14, 15, 16, 0, 1, 2, 3, 4, 5, 6, 7] rfl
    have hD : va_D (zA s.heap.size) (wX h d cA z c ++ ((o, .inl (cL, 1, .inr (.inl (vp_updL g (0 : Int32).toNatClampNeg (z.2.2.2.1 (xs (nI (i + 1)).toNatClampNeg).toNatClampNeg).toInt64)))) :: wM hm d2 cA (0) z c)) := hD.sub [8, 9, 10, 11, 12, 13, 14, 15, 16, 0, 1, 2, 3, 4, 5, 6, 7] (by decide) rfl
    refine va_lald hx hb hK hP 8 1 rfl rfl (vp_in_nI (n := 0) (by decide) (by decide)) dL_law_868 ?_
    rw [show ((vp_updL g (0 : Int32).toNatClampNeg (z.2.2.2.1 (xs (nI (i + 1)).toNatClampNeg).toNatClampNeg).toInt64) (0 : Int32).toNatClampNeg : Int64) = (z.2.2.2.1 (xs (nI (i + 1)).toNatClampNeg).toNatClampNeg).toInt64 from pk_uLs]
    refine lv_iload hx hb dL_law_869 (lv_at hl 0 rfl) ?_
    refine lv_i2l hx hb dL_law_871 rfl ?_
    refine W.lcmp hx hb dL_law_872 ?_
    rw [show lg_cmp ((z.2.2.2.1 (xs (nI (i + 1)).toNatClampNeg).toNatClampNeg).toInt64) ((z.2.2.2.1 (xs (nI (i + 1)).toNatClampNeg).toNatClampNeg).toInt64) = 0 from zcmp _]
    refine lv_if_eq (tgt := 878) hx hb dL_law_873 (by decide) (fun _ => ?_) (fun c_873 => absurd c_873 (by decide))
    refine lv_goto (tgt := 1254) hx hb dL_law_878 (by decide) ?_
    refine W.widen (k := cells + 1) (n := slots + 6) (by omega) (by omega) ?_
    exact kk z c (0) (vp_updL g (0 : Int32).toNatClampNeg (z.2.2.2.1 (xs (nI (i + 1)).toNatClampNeg).toNatClampNeg).toInt64) hc hz _ _ hP hD hS ls (lv_sub hl [2, 3, 4, 5, 6] rfl)
  · refine lv_aload_n hx hb dL_law_825 rfl (lv_at hl 3 rfl) ?_
    refine lv_aload_n hx hb dL_law_826 rfl (lv_at hl 4 rfl) ?_
    refine lv_iload hx hb dL_law_827 (lv_at hl 0 rfl) ?_
    refine lv_iconst (v := 1) hx hb dL_law_829 (by decide) ?_
    refine lv_iadd hx hb dL_law_830 ?_
    rw [show (((nI i) + 1) : Int32) = (nI (i + 1)) from (nI_add i 1)]
    refine va_sld hx hb hX hbl hbA hS (vp_in_nI (by omega) (by omega)) dL_law_831 ?_
    refine lv_aload_n hx hb dL_law_832 rfl (lv_at hl 1 rfl) ?_
    refine va_calli (vx_runSW (As := [.ref h, .int (xs (nI (i + 1)).toNatClampNeg), .ref o]) (rest := []) ⟨hx, hb, hml, hown, hts⟩ (c_L_changesOf_1 l hst D s.heap.size cA cL (wM hm d2 cA (th) z c) h d z c o g (xs (nI (i + 1)).toNatClampNeg) hw) (vx_cwSW 3 hts gL_law_L_changesOf rfl rfl rfl (by decide +kernel) ⟨Nat.le_of_ble_eq_true rfl, Nat.le_of_ble_eq_true rfl⟩) ⟨zPre.blind, zPre.call (Nat.le_refl _) hP hD hK hE hS⟩ rfl rfl hl.1 rfl (lv_room (Nat.le_of_ble_eq_true rfl)) dL_law_833 hf1) hS (fun _ _ h9 => h9) (fun _ h9 => h9) (fun r_833 _ t H locs ht hvm h_833 hB hz1 hk1 hS => ?_)
    have h_833 : r_833 = 1 := h_833
    subst h_833
    obtain ⟨hP, hD⟩ := hB
    rw [ht] at hP
    have hP : va_P D vwCl (wX h d cA z c ++ ((o, .inl (cL, 1, .inr (.inl g))) :: wM hm d2 cA (th) z c)) H := hP
    have hD : va_D (zA s.heap.size) (wX h d cA z c ++ ((o, .inl (cL, 1, .inr (.inl g))) :: wM hm d2 cA (th) z c)) := hD
    refine lv_istore (lv' := [(5, .int 1), (4, .int (nI i)), (3, .ref o), (2, .ref hm), (1, .ref h), (0, .ref b)]) hx hb dL_law_836 hl (by decide) rfl (fun ls hl => ?_)
    refine lv_aload_n hx hb dL_law_838 rfl (lv_at hl 3 rfl) ?_
    refine lv_aload_n hx hb dL_law_839 rfl (lv_at hl 5 rfl) ?_
    refine lv_iload hx hb dL_law_840 (lv_at hl 1 rfl) ?_
    refine lv_iconst (v := 1) hx hb dL_law_842 (by decide) ?_
    refine lv_iadd hx hb dL_law_843 ?_
    rw [show (((nI i) + 1) : Int32) = (nI (i + 1)) from (nI_add i 1)]
    refine va_sld hx hb hX hbl hbA hS (vp_in_nI (by omega) (by omega)) dL_law_844 ?_
    have hP : va_P D vwCl (wM hm d2 cA (th) z c ++ (wX h d cA z c ++ [(o, .inl (cL, 1, .inr (.inl g)))])) H := hP.sub [9, 10, 11, 12, 13, 14, 15, 16, 0, 1, 2, 3, 4, 5, 6, 7, 8] rfl
    have hD : va_D (zA s.heap.size) (wM hm d2 cA (th) z c ++ (wX h d cA z c ++ [(o, .inl (cL, 1, .inr (.inl g)))])) := hD.sub [9, 10, 11, 12, 13, 14, 15, 16, 0, 1, 2, 3, 4, 5, 6, 7, 8] (by decide) rfl
    refine va_calli (va_runV (As := [.int (xs (nI (i + 1)).toNatClampNeg)]) (rest := []) ⟨hx, hb, hml, hown, hts⟩ (c_X1_changesOf_1 l D s.heap.size cA cL (wX h d cA z c ++ [(o, .inl (cL, 1, .inr (.inl g)))]) hm d2 (th) z c (xs (nI (i + 1)).toNatClampNeg) hw) (cwV 1 hts gL_law_X1_changesOf rfl rfl rfl (by decide +kernel) ⟨Nat.le_of_ble_eq_true rfl, Nat.le_of_ble_eq_true rfl⟩) ⟨zPre.blind, va_recv hK hP (ci := 1) (q0 := 0) rfl rfl, zPre.call (Nat.le_refl _) hP hD hK hE hS⟩ rfl rfl hl.1 rfl (lv_room (Nat.le_of_ble_eq_true rfl)) dL_law_845 hf1) hS (fun _ _ h9 => h9) (fun _ h9 => h9) (fun r_845 _ t H locs ht hvm h_845 hB hz1 hk1 hS => ?_)
    have h_845 : r_845 = (0) := h_845
    subst h_845
    obtain ⟨hP, hD⟩ := hB
    rw [ht] at hP
    have hP : va_P D vwCl (wM hm d2 cA (1) z c ++ (wX h d cA z c ++ [(o, .inl (cL, 1, .inr (.inl g)))])) H := hP
    have hD : va_D (zA s.heap.size) (wM hm d2 cA (1) z c ++ (wX h d cA z c ++ [(o, .inl (cL, 1, .inr (.inl g)))])) := hD
    refine lv_istore (lv' := [(6, .int 0), (5, .int 1), (4, .int (nI i)), (3, .ref o), (2, .ref hm), (1, .ref h), (0, .ref b)]) hx hb dL_law_848 hl (by decide) rfl (fun ls hl => ?_)
    refine lv_aload_n hx hb dL_law_850 rfl (lv_at hl 4 rfl) ?_
    refine vp_callSi ((va_runV (As := []) (rest := []) ⟨hx, hb, hml, hown, hts⟩ (c_X1_thrown l D s.heap.size cA cL (wX h d cA z c ++ [(o, .inl (cL, 1, .inr (.inl g)))]) hm d2 (1) z c  ) (cwV 0 hts gL_law_X1_thrown rfl rfl rfl (by decide +kernel) ⟨Nat.le_of_ble_eq_true rfl, Nat.le_of_ble_eq_true rfl⟩) ⟨zPre.blind, va_recv hK hP (ci := 1) (q0 := 0) rfl rfl, zPre.call (Nat.le_refl _) hP hD hK hE hS⟩ rfl rfl hl.1 rfl (lv_room (Nat.le_of_ble_eq_true rfl)) dL_law_851 hf1).run) (fun r_851 h_851 => ?_)
    have h_851 : r_851 = 1 := h_851
    subst h_851
    refine lv_iload hx hb dL_law_854 (lv_at hl 1 rfl) ?_
    refine lv_icmp_eq (tgt := 861) hx hb dL_law_856 (by decide) (fun _ => ?_) (fun c_856 => absurd c_856 (by decide))
    refine lv_iload hx hb dL_law_861 (lv_at hl 1 rfl) ?_
    refine lv_if_ne (tgt := 878) hx hb dL_law_863 (by decide) (fun _ => ?_) (fun c_863 => absurd c_863 (by decide))
    refine lv_goto (tgt := 1254) hx hb dL_law_878 (by decide) ?_
    have hP : va_P D vwCl (wX h d cA z c ++ ((o, .inl (cL, 1, .inr (.inl g))) :: wM hm d2 cA (1) z c)) H := hP.sub [8, 9, 10, 11, 12, 13, 14, 15, 16, 0, 1, 2, 3, 4, 5, 6, 7] rfl
    have hD : va_D (zA s.heap.size) (wX h d cA z c ++ ((o, .inl (cL, 1, .inr (.inl g))) :: wM hm d2 cA (1) z c)) := hD.sub [8, 9, 10, 11, 12, 13, 14, 15, 16, 0, 1, 2, 3, 4, 5, 6, 7] (by decide) rfl
    refine W.widen (k := cells + 1) (n := slots + 6) (by omega) (by omega) ?_
    exact kk z c (1) g hc hz _ _ hP hD hS ls (lv_sub hl [2, 3, 4, 5, 6] rfl)

set_option maxHeartbeats 8000000 in
set_option maxRecDepth 100000 in
theorem law_13 {p : Program} {l : Launch} {e : Env} {s : State} {m : MethodId} {below : List Frame} {meth : Method} {cd : Code} {b L : Nat} {xs : Nat → Int32} {D : va_G} {cA cL : ClassId} (C9 : zC9 p l s m meth cd b L xs D cA cL) {h hm o : Nat} {d d2 : Nat → Nat} {z : S7} {c : C5} {th : Int32} {g : Nat → Int64} (hc : okC c) (hz : okZ z) {i : Nat} (hi : i + 5 ≤ L) {cells slots : Nat} (hce : cells + 1 ≤ 1045) (hsl : slots + 6 ≤ 8314) (kk : zKK p l e s m below meth cd b D cA cL h hm o d d2 i cells slots) {H : Heap} {locs : List Loc} (hP : va_P D vwCl (zLW h d hm d2 o cA cL z c th g) H) (hD : va_D (zA s.heap.size) (zLW h d hm d2 o cA cL z c th g)) (hS : va_S (zA s.heap.size) s.heap H locs) {ls : Array Slot} (hl : lv_has ls 7 [(4, .int (nI i)), (3, .ref o), (2, .ref hm), (1, .ref h), (0, .ref b)]) : W p l e room_1 s m #[Value.ref b] below meth cd H locs cells slots (lw_Z below #[Value.ref b] s) (F0 m 881 ls []) := by
  obtain ⟨hst, hx, hb, hml, hown, hts, hX, hbl, hK, hE, hL⟩ := C9
  have hbA : ¬ zA s.heap.size b := Nat.not_le.mpr hbl
  have hf0 : cells + 0 ≤ room_1.cells ∧ slots + 0 ≤ room_1.slots := ⟨by show cells + 0 ≤ 1045; omega, by show slots + 0 ≤ 8314; omega⟩
  have hf1 : cells + 1 ≤ room_1.cells ∧ slots + 6 ≤ room_1.slots := ⟨hce, hsl⟩
  by_cases hw : zw (xs (nI (i + 1)).toNatClampNeg)
  · refine lv_aload_n hx hb dL_law_881 rfl (lv_at hl 3 rfl) ?_
    refine lv_aload_n hx hb dL_law_882 rfl (lv_at hl 4 rfl) ?_
    refine lv_iload hx hb dL_law_883 (lv_at hl 0 rfl) ?_
    refine lv_iconst (v := 1) hx hb dL_law_885 (by decide) ?_
    refine lv_iadd hx hb dL_law_886 ?_
    rw [show (((nI i) + 1) : Int32) = (nI (i + 1)) from (nI_add i 1)]
    refine va_sld hx hb hX hbl hbA hS (vp_in_nI (by omega) (by omega)) dL_law_887 ?_
    refine lv_aload_n hx hb dL_law_888 rfl (lv_at hl 1 rfl) ?_
    refine va_calli (vx_runSW (As := [.ref h, .int (xs (nI (i + 1)).toNatClampNeg), .ref o]) (rest := []) ⟨hx, hb, hml, hown, hts⟩ (c_L_leapsOf_v l D s.heap.size cA cL (wM hm d2 cA (th) z c) h d z c o g (xs (nI (i + 1)).toNatClampNeg) hw) (vx_cwSW 3 hts gL_law_L_leapsOf rfl rfl rfl (by decide +kernel) ⟨Nat.le_of_ble_eq_true rfl, Nat.le_of_ble_eq_true rfl⟩) ⟨zPre.blind, zPre.call (Nat.le_refl _) hP hD hK hE hS⟩ rfl rfl hl.1 rfl (lv_room (Nat.le_of_ble_eq_true rfl)) dL_law_889 hf0) hS (fun _ _ h9 => h9) (fun _ h9 => h9) (fun r_889 _ t H locs ht hvm h_889 hB hz1 hk1 hS => ?_)
    have h_889 : r_889 = 0 := h_889
    subst h_889
    obtain ⟨hP, hD⟩ := hB
    rw [ht] at hP
    have hP : va_P D vwCl (wX h d cA z c ++ ((o, .inl (cL, 1, .inr (.inl (vp_updL g (0 : Int32).toNatClampNeg (z.2.2.2.2.1 (xs (nI (i + 1)).toNatClampNeg).toNatClampNeg).toInt64)))) :: wM hm d2 cA (th) z c)) H := hP
    have hD : va_D (zA s.heap.size) (wX h d cA z c ++ ((o, .inl (cL, 1, .inr (.inl (vp_updL g (0 : Int32).toNatClampNeg (z.2.2.2.2.1 (xs (nI (i + 1)).toNatClampNeg).toNatClampNeg).toInt64)))) :: wM hm d2 cA (th) z c)) := hD
    refine lv_istore (lv' := [(5, .int 0), (4, .int (nI i)), (3, .ref o), (2, .ref hm), (1, .ref h), (0, .ref b)]) hx hb dL_law_892 hl (by decide) rfl (fun ls hl => ?_)
    refine lv_aload_n hx hb dL_law_894 rfl (lv_at hl 3 rfl) ?_
    refine lv_aload_n hx hb dL_law_895 rfl (lv_at hl 5 rfl) ?_
    refine lv_iload hx hb dL_law_896 (lv_at hl 1 rfl) ?_
    refine lv_iconst (v := 1) hx hb dL_law_898 (by decide) ?_
    refine lv_iadd hx hb dL_law_899 ?_
    rw [show (((nI i) + 1) : Int32) = (nI (i + 1)) from (nI_add i 1)]
    refine va_sld hx hb hX hbl hbA hS (vp_in_nI (by omega) (by omega)) dL_law_900 ?_
    have hP : va_P D vwCl (wM hm d2 cA (th) z c ++ (wX h d cA z c ++ [(o, .inl (cL, 1, .inr (.inl (vp_updL g (0 : Int32).toNatClampNeg (z.2.2.2.2.1 (xs (nI (i + 1)).toNatClampNeg).toNatClampNeg).toInt64))))])) H := hP.sub [9, 10, 11, 12, 13, 14, 15, 16, 0, 1, 2, 3, 4, 5, 6, 7, 8] rfl
    have hD : va_D (zA s.heap.size) (wM hm d2 cA (th) z c ++ (wX h d cA z c ++ [(o, .inl (cL, 1, .inr (.inl (vp_updL g (0 : Int32).toNatClampNeg (z.2.2.2.2.1 (xs (nI (i + 1)).toNatClampNeg).toNatClampNeg).toInt64))))])) := hD.sub [9, 10, 11, 12, 13, 14, 15, 16, 0, 1, 2, 3, 4, 5, 6, 7, 8] (by decide) rfl
    refine va_calli (va_runV (As := [.int (xs (nI (i + 1)).toNatClampNeg)]) (rest := []) ⟨hx, hb, hml, hown, hts⟩ (c_X1_leapsOf_v l D s.heap.size cA cL (wX h d cA z c ++ [(o, .inl (cL, 1, .inr (.inl (vp_updL g (0 : Int32).toNatClampNeg (z.2.2.2.2.1 (xs (nI (i + 1)).toNatClampNeg).toNatClampNeg).toInt64))))]) hm d2 (th) z c (xs (nI (i + 1)).toNatClampNeg) hw) (cwV 1 hts gL_law_X1_leapsOf rfl rfl rfl (by decide +kernel) ⟨Nat.le_of_ble_eq_true rfl, Nat.le_of_ble_eq_true rfl⟩) ⟨zPre.blind, va_recv hK hP (ci := 1) (q0 := 0) rfl rfl, zPre.call (Nat.le_refl _) hP hD hK hE hS⟩ rfl rfl hl.1 rfl (lv_room (Nat.le_of_ble_eq_true rfl)) dL_law_901 hf0) hS (fun _ _ h9 => h9) (fun _ h9 => h9) (fun r_901 _ t H locs ht hvm h_901 hB hz1 hk1 hS => ?_)
    have h_901 : r_901 = (z.2.2.2.2.1 (xs (nI (i + 1)).toNatClampNeg).toNatClampNeg) := h_901
    subst h_901
    obtain ⟨hP, hD⟩ := hB
    rw [ht] at hP
    have hP : va_P D vwCl (wM hm d2 cA (0) z c ++ (wX h d cA z c ++ [(o, .inl (cL, 1, .inr (.inl (vp_updL g (0 : Int32).toNatClampNeg (z.2.2.2.2.1 (xs (nI (i + 1)).toNatClampNeg).toNatClampNeg).toInt64))))])) H := hP
    have hD : va_D (zA s.heap.size) (wM hm d2 cA (0) z c ++ (wX h d cA z c ++ [(o, .inl (cL, 1, .inr (.inl (vp_updL g (0 : Int32).toNatClampNeg (z.2.2.2.2.1 (xs (nI (i + 1)).toNatClampNeg).toNatClampNeg).toInt64))))])) := hD
    refine lv_istore (lv' := [(6, .int (z.2.2.2.2.1 (xs (nI (i + 1)).toNatClampNeg).toNatClampNeg)), (5, .int 0), (4, .int (nI i)), (3, .ref o), (2, .ref hm), (1, .ref h), (0, .ref b)]) hx hb dL_law_904 hl (by decide) rfl (fun ls hl => ?_)
    refine lv_aload_n hx hb dL_law_906 rfl (lv_at hl 4 rfl) ?_
    refine vp_callSi ((va_runV (As := []) (rest := []) ⟨hx, hb, hml, hown, hts⟩ (c_X1_thrown l D s.heap.size cA cL (wX h d cA z c ++ [(o, .inl (cL, 1, .inr (.inl (vp_updL g (0 : Int32).toNatClampNeg (z.2.2.2.2.1 (xs (nI (i + 1)).toNatClampNeg).toNatClampNeg).toInt64))))]) hm d2 (0) z c  ) (cwV 0 hts gL_law_X1_thrown rfl rfl rfl (by decide +kernel) ⟨Nat.le_of_ble_eq_true rfl, Nat.le_of_ble_eq_true rfl⟩) ⟨zPre.blind, va_recv hK hP (ci := 1) (q0 := 0) rfl rfl, zPre.call (Nat.le_refl _) hP hD hK hE hS⟩ rfl rfl hl.1 rfl (lv_room (Nat.le_of_ble_eq_true rfl)) dL_law_907 hf0).run) (fun r_907 h_907 => ?_)
    have h_907 : r_907 = 0 := h_907
    subst h_907
    refine lv_iload hx hb dL_law_910 (lv_at hl 1 rfl) ?_
    refine lv_icmp_eq (tgt := 917) hx hb dL_law_912 (by decide) (fun _ => ?_) (fun c_912 => absurd c_912 (by decide))
    refine lv_iload hx hb dL_law_917 (lv_at hl 1 rfl) ?_
    refine lv_if_ne (tgt := 934) hx hb dL_law_919 (by decide) (fun c_919 => absurd c_919 (by decide)) (fun _ => ?_)
    refine lv_aload_n hx hb dL_law_922 rfl (lv_at hl 3 rfl) ?_
    refine lv_iconst (v := 0) hx hb dL_law_923 (by decide) ?_
    have hP : va_P D vwCl (wX h d cA z c ++ ((o, .inl (cL, 1, .inr (.inl (vp_updL g (0 : Int32).toNatClampNeg (z.2.2.2.2.1 (xs (nI (i + 1)).toNatClampNeg).toNatClampNeg).toInt64)))) :: wM hm d2 cA (0) z c)) H := hP.sub [8, 9, 10, 11, 12, 13, 14, 15, 16, 0, 1, 2, 3, 4, 5, 6, 7] rfl
    have hD : va_D (zA s.heap.size) (wX h d cA z c ++ ((o, .inl (cL, 1, .inr (.inl (vp_updL g (0 : Int32).toNatClampNeg (z.2.2.2.2.1 (xs (nI (i + 1)).toNatClampNeg).toNatClampNeg).toInt64)))) :: wM hm d2 cA (0) z c)) := hD.sub [8, 9, 10, 11, 12, 13, 14, 15, 16, 0, 1, 2, 3, 4, 5, 6, 7] (by decide) rfl
    refine va_lald hx hb hK hP 8 1 rfl rfl (vp_in_nI (n := 0) (by decide) (by decide)) dL_law_924 ?_
    rw [show ((vp_updL g (0 : Int32).toNatClampNeg (z.2.2.2.2.1 (xs (nI (i + 1)).toNatClampNeg).toNatClampNeg).toInt64) (0 : Int32).toNatClampNeg : Int64) = (z.2.2.2.2.1 (xs (nI (i + 1)).toNatClampNeg).toNatClampNeg).toInt64 from pk_uLs]
    refine lv_iload hx hb dL_law_925 (lv_at hl 0 rfl) ?_
    refine lv_i2l hx hb dL_law_927 rfl ?_
    refine W.lcmp hx hb dL_law_928 ?_
    rw [show lg_cmp ((z.2.2.2.2.1 (xs (nI (i + 1)).toNatClampNeg).toNatClampNeg).toInt64) ((z.2.2.2.2.1 (xs (nI (i + 1)).toNatClampNeg).toNatClampNeg).toInt64) = 0 from zcmp _]
    refine lv_if_eq (tgt := 934) hx hb dL_law_929 (by decide) (fun _ => ?_) (fun c_929 => absurd c_929 (by decide))
    refine lv_goto (tgt := 1254) hx hb dL_law_934 (by decide) ?_
    refine W.widen (k := cells + 1) (n := slots + 6) (by omega) (by omega) ?_
    exact kk z c (0) (vp_updL g (0 : Int32).toNatClampNeg (z.2.2.2.2.1 (xs (nI (i + 1)).toNatClampNeg).toNatClampNeg).toInt64) hc hz _ _ hP hD hS ls (lv_sub hl [2, 3, 4, 5, 6] rfl)
  · refine lv_aload_n hx hb dL_law_881 rfl (lv_at hl 3 rfl) ?_
    refine lv_aload_n hx hb dL_law_882 rfl (lv_at hl 4 rfl) ?_
    refine lv_iload hx hb dL_law_883 (lv_at hl 0 rfl) ?_
    refine lv_iconst (v := 1) hx hb dL_law_885 (by decide) ?_
    refine lv_iadd hx hb dL_law_886 ?_
    rw [show (((nI i) + 1) : Int32) = (nI (i + 1)) from (nI_add i 1)]
    refine va_sld hx hb hX hbl hbA hS (vp_in_nI (by omega) (by omega)) dL_law_887 ?_
    refine lv_aload_n hx hb dL_law_888 rfl (lv_at hl 1 rfl) ?_
    refine va_calli (vx_runSW (As := [.ref h, .int (xs (nI (i + 1)).toNatClampNeg), .ref o]) (rest := []) ⟨hx, hb, hml, hown, hts⟩ (c_L_leapsOf_1 l hst D s.heap.size cA cL (wM hm d2 cA (th) z c) h d z c o g (xs (nI (i + 1)).toNatClampNeg) hw) (vx_cwSW 3 hts gL_law_L_leapsOf rfl rfl rfl (by decide +kernel) ⟨Nat.le_of_ble_eq_true rfl, Nat.le_of_ble_eq_true rfl⟩) ⟨zPre.blind, zPre.call (Nat.le_refl _) hP hD hK hE hS⟩ rfl rfl hl.1 rfl (lv_room (Nat.le_of_ble_eq_true rfl)) dL_law_889 hf1) hS (fun _ _ h9 => h9) (fun _ h9 => h9) (fun r_889 _ t H locs ht hvm h_889 hB hz1 hk1 hS => ?_)
    have h_889 : r_889 = 1 := h_889
    subst h_889
    obtain ⟨hP, hD⟩ := hB
    rw [ht] at hP
    have hP : va_P D vwCl (wX h d cA z c ++ ((o, .inl (cL, 1, .inr (.inl g))) :: wM hm d2 cA (th) z c)) H := hP
    have hD : va_D (zA s.heap.size) (wX h d cA z c ++ ((o, .inl (cL, 1, .inr (.inl g))) :: wM hm d2 cA (th) z c)) := hD
    refine lv_istore (lv' := [(5, .int 1), (4, .int (nI i)), (3, .ref o), (2, .ref hm), (1, .ref h), (0, .ref b)]) hx hb dL_law_892 hl (by decide) rfl (fun ls hl => ?_)
    refine lv_aload_n hx hb dL_law_894 rfl (lv_at hl 3 rfl) ?_
    refine lv_aload_n hx hb dL_law_895 rfl (lv_at hl 5 rfl) ?_
    refine lv_iload hx hb dL_law_896 (lv_at hl 1 rfl) ?_
    refine lv_iconst (v := 1) hx hb dL_law_898 (by decide) ?_
    refine lv_iadd hx hb dL_law_899 ?_
    rw [show (((nI i) + 1) : Int32) = (nI (i + 1)) from (nI_add i 1)]
    refine va_sld hx hb hX hbl hbA hS (vp_in_nI (by omega) (by omega)) dL_law_900 ?_
    have hP : va_P D vwCl (wM hm d2 cA (th) z c ++ (wX h d cA z c ++ [(o, .inl (cL, 1, .inr (.inl g)))])) H := hP.sub [9, 10, 11, 12, 13, 14, 15, 16, 0, 1, 2, 3, 4, 5, 6, 7, 8] rfl
    have hD : va_D (zA s.heap.size) (wM hm d2 cA (th) z c ++ (wX h d cA z c ++ [(o, .inl (cL, 1, .inr (.inl g)))])) := hD.sub [9, 10, 11, 12, 13, 14, 15, 16, 0, 1, 2, 3, 4, 5, 6, 7, 8] (by decide) rfl
    refine va_calli (va_runV (As := [.int (xs (nI (i + 1)).toNatClampNeg)]) (rest := []) ⟨hx, hb, hml, hown, hts⟩ (c_X1_leapsOf_1 l D s.heap.size cA cL (wX h d cA z c ++ [(o, .inl (cL, 1, .inr (.inl g)))]) hm d2 (th) z c (xs (nI (i + 1)).toNatClampNeg) hw) (cwV 1 hts gL_law_X1_leapsOf rfl rfl rfl (by decide +kernel) ⟨Nat.le_of_ble_eq_true rfl, Nat.le_of_ble_eq_true rfl⟩) ⟨zPre.blind, va_recv hK hP (ci := 1) (q0 := 0) rfl rfl, zPre.call (Nat.le_refl _) hP hD hK hE hS⟩ rfl rfl hl.1 rfl (lv_room (Nat.le_of_ble_eq_true rfl)) dL_law_901 hf1) hS (fun _ _ h9 => h9) (fun _ h9 => h9) (fun r_901 _ t H locs ht hvm h_901 hB hz1 hk1 hS => ?_)
    have h_901 : r_901 = (0) := h_901
    subst h_901
    obtain ⟨hP, hD⟩ := hB
    rw [ht] at hP
    have hP : va_P D vwCl (wM hm d2 cA (1) z c ++ (wX h d cA z c ++ [(o, .inl (cL, 1, .inr (.inl g)))])) H := hP
    have hD : va_D (zA s.heap.size) (wM hm d2 cA (1) z c ++ (wX h d cA z c ++ [(o, .inl (cL, 1, .inr (.inl g)))])) := hD
    refine lv_istore (lv' := [(6, .int 0), (5, .int 1), (4, .int (nI i)), (3, .ref o), (2, .ref hm), (1, .ref h), (0, .ref b)]) hx hb dL_law_904 hl (by decide) rfl (fun ls hl => ?_)
    refine lv_aload_n hx hb dL_law_906 rfl (lv_at hl 4 rfl) ?_
    refine vp_callSi ((va_runV (As := []) (rest := []) ⟨hx, hb, hml, hown, hts⟩ (c_X1_thrown l D s.heap.size cA cL (wX h d cA z c ++ [(o, .inl (cL, 1, .inr (.inl g)))]) hm d2 (1) z c  ) (cwV 0 hts gL_law_X1_thrown rfl rfl rfl (by decide +kernel) ⟨Nat.le_of_ble_eq_true rfl, Nat.le_of_ble_eq_true rfl⟩) ⟨zPre.blind, va_recv hK hP (ci := 1) (q0 := 0) rfl rfl, zPre.call (Nat.le_refl _) hP hD hK hE hS⟩ rfl rfl hl.1 rfl (lv_room (Nat.le_of_ble_eq_true rfl)) dL_law_907 hf1).run) (fun r_907 h_907 => ?_)
    have h_907 : r_907 = 1 := h_907
    subst h_907
    refine lv_iload hx hb dL_law_910 (lv_at hl 1 rfl) ?_
    refine lv_icmp_eq (tgt := 917) hx hb dL_law_912 (by decide) (fun _ => ?_) (fun c_912 => absurd c_912 (by decide))
    refine lv_iload hx hb dL_law_917 (lv_at hl 1 rfl) ?_
    refine lv_if_ne (tgt := 934) hx hb dL_law_919 (by decide) (fun _ => ?_) (fun c_919 => absurd c_919 (by decide))
    refine lv_goto (tgt := 1254) hx hb dL_law_934 (by decide) ?_
    have hP : va_P D vwCl (wX h d cA z c ++ ((o, .inl (cL, 1, .inr (.inl g))) :: wM hm d2 cA (1) z c)) H := hP.sub [8, 9, 10, 11, 12, 13, 14, 15, 16, 0, 1, 2, 3, 4, 5, 6, 7] rfl
    have hD : va_D (zA s.heap.size) (wX h d cA z c ++ ((o, .inl (cL, 1, .inr (.inl g))) :: wM hm d2 cA (1) z c)) := hD.sub [8, 9, 10, 11, 12, 13, 14, 15, 16, 0, 1, 2, 3, 4, 5, 6, 7] (by decide) rfl
    refine W.widen (k := cells + 1) (n := slots + 6) (by omega) (by omega) ?_
    exact kk z c (1) g hc hz _ _ hP hD hS ls (lv_sub hl [2, 3, 4, 5, 6] rfl)

set_option maxHeartbeats 8000000 in
set_option maxRecDepth 100000 in
theorem law_14 {p : Program} {l : Launch} {e : Env} {s : State} {m : MethodId} {below : List Frame} {meth : Method} {cd : Code} {b L : Nat} {xs : Nat → Int32} {D : va_G} {cA cL : ClassId} (C9 : zC9 p l s m meth cd b L xs D cA cL) {h hm o : Nat} {d d2 : Nat → Nat} {z : S7} {c : C5} {th : Int32} {g : Nat → Int64} (hc : okC c) (hz : okZ z) {i : Nat} (hi : i + 5 ≤ L) {cells slots : Nat} (hce : cells + 1 ≤ 1045) (hsl : slots + 6 ≤ 8314) (kk : zKK p l e s m below meth cd b D cA cL h hm o d d2 i cells slots) {H : Heap} {locs : List Loc} (hP : va_P D vwCl (zLW h d hm d2 o cA cL z c th g) H) (hD : va_D (zA s.heap.size) (zLW h d hm d2 o cA cL z c th g)) (hS : va_S (zA s.heap.size) s.heap H locs) {ls : Array Slot} (hl : lv_has ls 7 [(4, .int (nI i)), (3, .ref o), (2, .ref hm), (1, .ref h), (0, .ref b)]) : W p l e room_1 s m #[Value.ref b] below meth cd H locs cells slots (lw_Z below #[Value.ref b] s) (F0 m 937 ls []) := by
  obtain ⟨hst, hx, hb, hml, hown, hts, hX, hbl, hK, hE, hL⟩ := C9
  have hbA : ¬ zA s.heap.size b := Nat.not_le.mpr hbl
  have hf0 : cells + 0 ≤ room_1.cells ∧ slots + 0 ≤ room_1.slots := ⟨by show cells + 0 ≤ 1045; omega, by show slots + 0 ≤ 8314; omega⟩
  have hf1 : cells + 1 ≤ room_1.cells ∧ slots + 6 ≤ room_1.slots := ⟨hce, hsl⟩
  by_cases hw : zw (xs (nI (i + 1)).toNatClampNeg)
  · refine lv_aload_n hx hb dL_law_937 rfl (lv_at hl 3 rfl) ?_
    refine lv_aload_n hx hb dL_law_938 rfl (lv_at hl 4 rfl) ?_
    refine lv_iload hx hb dL_law_939 (lv_at hl 0 rfl) ?_
    refine lv_iconst (v := 1) hx hb dL_law_941 (by decide) ?_
    refine lv_iadd hx hb dL_law_942 ?_
    rw [show (((nI i) + 1) : Int32) = (nI (i + 1)) from (nI_add i 1)]
    refine va_sld hx hb hX hbl hbA hS (vp_in_nI (by omega) (by omega)) dL_law_943 ?_
    refine lv_aload_n hx hb dL_law_944 rfl (lv_at hl 1 rfl) ?_
    refine va_calli (vx_runSW (As := [.ref h, .int (xs (nI (i + 1)).toNatClampNeg), .ref o]) (rest := []) ⟨hx, hb, hml, hown, hts⟩ (c_L_cleanOf_v l D s.heap.size cA cL (wM hm d2 cA (th) z c) h d z c o g (xs (nI (i + 1)).toNatClampNeg) hw) (vx_cwSW 3 hts gL_law_L_cleanOf rfl rfl rfl (by decide +kernel) ⟨Nat.le_of_ble_eq_true rfl, Nat.le_of_ble_eq_true rfl⟩) ⟨zPre.blind, zPre.call (Nat.le_refl _) hP hD hK hE hS⟩ rfl rfl hl.1 rfl (lv_room (Nat.le_of_ble_eq_true rfl)) dL_law_945 hf0) hS (fun _ _ h9 => h9) (fun _ h9 => h9) (fun r_945 _ t H locs ht hvm h_945 hB hz1 hk1 hS => ?_)
    have h_945 : r_945 = 0 := h_945
    subst h_945
    obtain ⟨hP, hD⟩ := hB
    rw [ht] at hP
    have hP : va_P D vwCl (wX h d cA z c ++ ((o, .inl (cL, 1, .inr (.inl (vp_updL g (0 : Int32).toNatClampNeg (z.2.2.2.2.2.1 (xs (nI (i + 1)).toNatClampNeg).toNatClampNeg).toInt64)))) :: wM hm d2 cA (th) z c)) H := hP
    have hD : va_D (zA s.heap.size) (wX h d cA z c ++ ((o, .inl (cL, 1, .inr (.inl (vp_updL g (0 : Int32).toNatClampNeg (z.2.2.2.2.2.1 (xs (nI (i + 1)).toNatClampNeg).toNatClampNeg).toInt64)))) :: wM hm d2 cA (th) z c)) := hD
    refine lv_istore (lv' := [(5, .int 0), (4, .int (nI i)), (3, .ref o), (2, .ref hm), (1, .ref h), (0, .ref b)]) hx hb dL_law_948 hl (by decide) rfl (fun ls hl => ?_)
    refine lv_aload_n hx hb dL_law_950 rfl (lv_at hl 3 rfl) ?_
    refine lv_aload_n hx hb dL_law_951 rfl (lv_at hl 5 rfl) ?_
    refine lv_iload hx hb dL_law_952 (lv_at hl 1 rfl) ?_
    refine lv_iconst (v := 1) hx hb dL_law_954 (by decide) ?_
    refine lv_iadd hx hb dL_law_955 ?_
    rw [show (((nI i) + 1) : Int32) = (nI (i + 1)) from (nI_add i 1)]
    refine va_sld hx hb hX hbl hbA hS (vp_in_nI (by omega) (by omega)) dL_law_956 ?_
    have hP : va_P D vwCl (wM hm d2 cA (th) z c ++ (wX h d cA z c ++ [(o, .inl (cL, 1, .inr (.inl (vp_updL g (0 : Int32).toNatClampNeg (z.2.2.2.2.2.1 (xs (nI (i + 1)).toNatClampNeg).toNatClampNeg).toInt64))))])) H := hP.sub [9, 10, 11, 12, 13, 14, 15, 16, 0, 1, 2, 3, 4, 5, 6, 7, 8] rfl
    have hD : va_D (zA s.heap.size) (wM hm d2 cA (th) z c ++ (wX h d cA z c ++ [(o, .inl (cL, 1, .inr (.inl (vp_updL g (0 : Int32).toNatClampNeg (z.2.2.2.2.2.1 (xs (nI (i + 1)).toNatClampNeg).toNatClampNeg).toInt64))))])) := hD.sub [9, 10, 11, 12, 13, 14, 15, 16, 0, 1, 2, 3, 4, 5, 6, 7, 8] (by decide) rfl
    refine va_calli (va_runV (As := [.int (xs (nI (i + 1)).toNatClampNeg)]) (rest := []) ⟨hx, hb, hml, hown, hts⟩ (c_X1_cleanOf_v l D s.heap.size cA cL (wX h d cA z c ++ [(o, .inl (cL, 1, .inr (.inl (vp_updL g (0 : Int32).toNatClampNeg (z.2.2.2.2.2.1 (xs (nI (i + 1)).toNatClampNeg).toNatClampNeg).toInt64))))]) hm d2 (th) z c (xs (nI (i + 1)).toNatClampNeg) hw) (cwV 1 hts gL_law_X1_cleanOf rfl rfl rfl (by decide +kernel) ⟨Nat.le_of_ble_eq_true rfl, Nat.le_of_ble_eq_true rfl⟩) ⟨zPre.blind, va_recv hK hP (ci := 1) (q0 := 0) rfl rfl, zPre.call (Nat.le_refl _) hP hD hK hE hS⟩ rfl rfl hl.1 rfl (lv_room (Nat.le_of_ble_eq_true rfl)) dL_law_957 hf0) hS (fun _ _ h9 => h9) (fun _ h9 => h9) (fun r_957 _ t H locs ht hvm h_957 hB hz1 hk1 hS => ?_)
    have h_957 : r_957 = (z.2.2.2.2.2.1 (xs (nI (i + 1)).toNatClampNeg).toNatClampNeg) := h_957
    subst h_957
    obtain ⟨hP, hD⟩ := hB
    rw [ht] at hP
    have hP : va_P D vwCl (wM hm d2 cA (0) z c ++ (wX h d cA z c ++ [(o, .inl (cL, 1, .inr (.inl (vp_updL g (0 : Int32).toNatClampNeg (z.2.2.2.2.2.1 (xs (nI (i + 1)).toNatClampNeg).toNatClampNeg).toInt64))))])) H := hP
    have hD : va_D (zA s.heap.size) (wM hm d2 cA (0) z c ++ (wX h d cA z c ++ [(o, .inl (cL, 1, .inr (.inl (vp_updL g (0 : Int32).toNatClampNeg (z.2.2.2.2.2.1 (xs (nI (i + 1)).toNatClampNeg).toNatClampNeg).toInt64))))])) := hD
    refine lv_istore (lv' := [(6, .int (z.2.2.2.2.2.1 (xs (nI (i + 1)).toNatClampNeg).toNatClampNeg)), (5, .int 0), (4, .int (nI i)), (3, .ref o), (2, .ref hm), (1, .ref h), (0, .ref b)]) hx hb dL_law_960 hl (by decide) rfl (fun ls hl => ?_)
    refine lv_aload_n hx hb dL_law_962 rfl (lv_at hl 4 rfl) ?_
    refine vp_callSi ((va_runV (As := []) (rest := []) ⟨hx, hb, hml, hown, hts⟩ (c_X1_thrown l D s.heap.size cA cL (wX h d cA z c ++ [(o, .inl (cL, 1, .inr (.inl (vp_updL g (0 : Int32).toNatClampNeg (z.2.2.2.2.2.1 (xs (nI (i + 1)).toNatClampNeg).toNatClampNeg).toInt64))))]) hm d2 (0) z c  ) (cwV 0 hts gL_law_X1_thrown rfl rfl rfl (by decide +kernel) ⟨Nat.le_of_ble_eq_true rfl, Nat.le_of_ble_eq_true rfl⟩) ⟨zPre.blind, va_recv hK hP (ci := 1) (q0 := 0) rfl rfl, zPre.call (Nat.le_refl _) hP hD hK hE hS⟩ rfl rfl hl.1 rfl (lv_room (Nat.le_of_ble_eq_true rfl)) dL_law_963 hf0).run) (fun r_963 h_963 => ?_)
    have h_963 : r_963 = 0 := h_963
    subst h_963
    refine lv_iload hx hb dL_law_966 (lv_at hl 1 rfl) ?_
    refine lv_icmp_eq (tgt := 973) hx hb dL_law_968 (by decide) (fun _ => ?_) (fun c_968 => absurd c_968 (by decide))
    refine lv_iload hx hb dL_law_973 (lv_at hl 1 rfl) ?_
    refine lv_if_ne (tgt := 990) hx hb dL_law_975 (by decide) (fun c_975 => absurd c_975 (by decide)) (fun _ => ?_)
    refine lv_aload_n hx hb dL_law_978 rfl (lv_at hl 3 rfl) ?_
    refine lv_iconst (v := 0) hx hb dL_law_979 (by decide) ?_
    have hP : va_P D vwCl (wX h d cA z c ++ ((o, .inl (cL, 1, .inr (.inl (vp_updL g (0 : Int32).toNatClampNeg (z.2.2.2.2.2.1 (xs (nI (i + 1)).toNatClampNeg).toNatClampNeg).toInt64)))) :: wM hm d2 cA (0) z c)) H := hP.sub [8, 9, 10, 11, 12, 13, 14, 15, 16, 0, 1, 2, 3, 4, 5, 6, 7] rfl
    have hD : va_D (zA s.heap.size) (wX h d cA z c ++ ((o, .inl (cL, 1, .inr (.inl (vp_updL g (0 : Int32).toNatClampNeg (z.2.2.2.2.2.1 (xs (nI (i + 1)).toNatClampNeg).toNatClampNeg).toInt64)))) :: wM hm d2 cA (0) z c)) := hD.sub [8, 9, 10, 11, 12, 13, 14, 15, 16, 0, 1, 2, 3, 4, 5, 6, 7] (by decide) rfl
    refine va_lald hx hb hK hP 8 1 rfl rfl (vp_in_nI (n := 0) (by decide) (by decide)) dL_law_980 ?_
    rw [show ((vp_updL g (0 : Int32).toNatClampNeg (z.2.2.2.2.2.1 (xs (nI (i + 1)).toNatClampNeg).toNatClampNeg).toInt64) (0 : Int32).toNatClampNeg : Int64) = (z.2.2.2.2.2.1 (xs (nI (i + 1)).toNatClampNeg).toNatClampNeg).toInt64 from pk_uLs]
    refine lv_iload hx hb dL_law_981 (lv_at hl 0 rfl) ?_
    refine lv_i2l hx hb dL_law_983 rfl ?_
    refine W.lcmp hx hb dL_law_984 ?_
    rw [show lg_cmp ((z.2.2.2.2.2.1 (xs (nI (i + 1)).toNatClampNeg).toNatClampNeg).toInt64) ((z.2.2.2.2.2.1 (xs (nI (i + 1)).toNatClampNeg).toNatClampNeg).toInt64) = 0 from zcmp _]
    refine lv_if_eq (tgt := 990) hx hb dL_law_985 (by decide) (fun _ => ?_) (fun c_985 => absurd c_985 (by decide))
    refine lv_goto (tgt := 1254) hx hb dL_law_990 (by decide) ?_
    refine W.widen (k := cells + 1) (n := slots + 6) (by omega) (by omega) ?_
    exact kk z c (0) (vp_updL g (0 : Int32).toNatClampNeg (z.2.2.2.2.2.1 (xs (nI (i + 1)).toNatClampNeg).toNatClampNeg).toInt64) hc hz _ _ hP hD hS ls (lv_sub hl [2, 3, 4, 5, 6] rfl)
  · refine lv_aload_n hx hb dL_law_937 rfl (lv_at hl 3 rfl) ?_
    refine lv_aload_n hx hb dL_law_938 rfl (lv_at hl 4 rfl) ?_
    refine lv_iload hx hb dL_law_939 (lv_at hl 0 rfl) ?_
    refine lv_iconst (v := 1) hx hb dL_law_941 (by decide) ?_
    refine lv_iadd hx hb dL_law_942 ?_
    rw [show (((nI i) + 1) : Int32) = (nI (i + 1)) from (nI_add i 1)]
    refine va_sld hx hb hX hbl hbA hS (vp_in_nI (by omega) (by omega)) dL_law_943 ?_
    refine lv_aload_n hx hb dL_law_944 rfl (lv_at hl 1 rfl) ?_
    refine va_calli (vx_runSW (As := [.ref h, .int (xs (nI (i + 1)).toNatClampNeg), .ref o]) (rest := []) ⟨hx, hb, hml, hown, hts⟩ (c_L_cleanOf_1 l hst D s.heap.size cA cL (wM hm d2 cA (th) z c) h d z c o g (xs (nI (i + 1)).toNatClampNeg) hw) (vx_cwSW 3 hts gL_law_L_cleanOf rfl rfl rfl (by decide +kernel) ⟨Nat.le_of_ble_eq_true rfl, Nat.le_of_ble_eq_true rfl⟩) ⟨zPre.blind, zPre.call (Nat.le_refl _) hP hD hK hE hS⟩ rfl rfl hl.1 rfl (lv_room (Nat.le_of_ble_eq_true rfl)) dL_law_945 hf1) hS (fun _ _ h9 => h9) (fun _ h9 => h9) (fun r_945 _ t H locs ht hvm h_945 hB hz1 hk1 hS => ?_)
    have h_945 : r_945 = 1 := h_945
    subst h_945
    obtain ⟨hP, hD⟩ := hB
    rw [ht] at hP
    have hP : va_P D vwCl (wX h d cA z c ++ ((o, .inl (cL, 1, .inr (.inl g))) :: wM hm d2 cA (th) z c)) H := hP
    have hD : va_D (zA s.heap.size) (wX h d cA z c ++ ((o, .inl (cL, 1, .inr (.inl g))) :: wM hm d2 cA (th) z c)) := hD
    refine lv_istore (lv' := [(5, .int 1), (4, .int (nI i)), (3, .ref o), (2, .ref hm), (1, .ref h), (0, .ref b)]) hx hb dL_law_948 hl (by decide) rfl (fun ls hl => ?_)
    refine lv_aload_n hx hb dL_law_950 rfl (lv_at hl 3 rfl) ?_
    refine lv_aload_n hx hb dL_law_951 rfl (lv_at hl 5 rfl) ?_
    refine lv_iload hx hb dL_law_952 (lv_at hl 1 rfl) ?_
    refine lv_iconst (v := 1) hx hb dL_law_954 (by decide) ?_
    refine lv_iadd hx hb dL_law_955 ?_
    rw [show (((nI i) + 1) : Int32) = (nI (i + 1)) from (nI_add i 1)]
    refine va_sld hx hb hX hbl hbA hS (vp_in_nI (by omega) (by omega)) dL_law_956 ?_
    have hP : va_P D vwCl (wM hm d2 cA (th) z c ++ (wX h d cA z c ++ [(o, .inl (cL, 1, .inr (.inl g)))])) H := hP.sub [9, 10, 11, 12, 13, 14, 15, 16, 0, 1, 2, 3, 4, 5, 6, 7, 8] rfl
    have hD : va_D (zA s.heap.size) (wM hm d2 cA (th) z c ++ (wX h d cA z c ++ [(o, .inl (cL, 1, .inr (.inl g)))])) := hD.sub [9, 10, 11, 12, 13, 14, 15, 16, 0, 1, 2, 3, 4, 5, 6, 7, 8] (by decide) rfl
    refine va_calli (va_runV (As := [.int (xs (nI (i + 1)).toNatClampNeg)]) (rest := []) ⟨hx, hb, hml, hown, hts⟩ (c_X1_cleanOf_1 l D s.heap.size cA cL (wX h d cA z c ++ [(o, .inl (cL, 1, .inr (.inl g)))]) hm d2 (th) z c (xs (nI (i + 1)).toNatClampNeg) hw) (cwV 1 hts gL_law_X1_cleanOf rfl rfl rfl (by decide +kernel) ⟨Nat.le_of_ble_eq_true rfl, Nat.le_of_ble_eq_true rfl⟩) ⟨zPre.blind, va_recv hK hP (ci := 1) (q0 := 0) rfl rfl, zPre.call (Nat.le_refl _) hP hD hK hE hS⟩ rfl rfl hl.1 rfl (lv_room (Nat.le_of_ble_eq_true rfl)) dL_law_957 hf1) hS (fun _ _ h9 => h9) (fun _ h9 => h9) (fun r_957 _ t H locs ht hvm h_957 hB hz1 hk1 hS => ?_)
    have h_957 : r_957 = (0) := h_957
    subst h_957
    obtain ⟨hP, hD⟩ := hB
    rw [ht] at hP
    have hP : va_P D vwCl (wM hm d2 cA (1) z c ++ (wX h d cA z c ++ [(o, .inl (cL, 1, .inr (.inl g)))])) H := hP
    have hD : va_D (zA s.heap.size) (wM hm d2 cA (1) z c ++ (wX h d cA z c ++ [(o, .inl (cL, 1, .inr (.inl g)))])) := hD
    refine lv_istore (lv' := [(6, .int 0), (5, .int 1), (4, .int (nI i)), (3, .ref o), (2, .ref hm), (1, .ref h), (0, .ref b)]) hx hb dL_law_960 hl (by decide) rfl (fun ls hl => ?_)
    refine lv_aload_n hx hb dL_law_962 rfl (lv_at hl 4 rfl) ?_
    refine vp_callSi ((va_runV (As := []) (rest := []) ⟨hx, hb, hml, hown, hts⟩ (c_X1_thrown l D s.heap.size cA cL (wX h d cA z c ++ [(o, .inl (cL, 1, .inr (.inl g)))]) hm d2 (1) z c  ) (cwV 0 hts gL_law_X1_thrown rfl rfl rfl (by decide +kernel) ⟨Nat.le_of_ble_eq_true rfl, Nat.le_of_ble_eq_true rfl⟩) ⟨zPre.blind, va_recv hK hP (ci := 1) (q0 := 0) rfl rfl, zPre.call (Nat.le_refl _) hP hD hK hE hS⟩ rfl rfl hl.1 rfl (lv_room (Nat.le_of_ble_eq_true rfl)) dL_law_963 hf1).run) (fun r_963 h_963 => ?_)
    have h_963 : r_963 = 1 := h_963
    subst h_963
    refine lv_iload hx hb dL_law_966 (lv_at hl 1 rfl) ?_
    refine lv_icmp_eq (tgt := 973) hx hb dL_law_968 (by decide) (fun _ => ?_) (fun c_968 => absurd c_968 (by decide))
    refine lv_iload hx hb dL_law_973 (lv_at hl 1 rfl) ?_
    refine lv_if_ne (tgt := 990) hx hb dL_law_975 (by decide) (fun _ => ?_) (fun c_975 => absurd c_975 (by decide))
    refine lv_goto (tgt := 1254) hx hb dL_law_990 (by decide) ?_
    have hP : va_P D vwCl (wX h d cA z c ++ ((o, .inl (cL, 1, .inr (.inl g))) :: wM hm d2 cA (1) z c)) H := hP.sub [8, 9, 10, 11, 12, 13, 14, 15, 16, 0, 1, 2, 3, 4, 5, 6, 7] rfl
    have hD : va_D (zA s.heap.size) (wX h d cA z c ++ ((o, .inl (cL, 1, .inr (.inl g))) :: wM hm d2 cA (1) z c)) := hD.sub [8, 9, 10, 11, 12, 13, 14, 15, 16, 0, 1, 2, 3, 4, 5, 6, 7] (by decide) rfl
    refine W.widen (k := cells + 1) (n := slots + 6) (by omega) (by omega) ?_
    exact kk z c (1) g hc hz _ _ hP hD hS ls (lv_sub hl [2, 3, 4, 5, 6] rfl)

set_option maxHeartbeats 8000000 in
set_option maxRecDepth 100000 in
theorem law_15 {p : Program} {l : Launch} {e : Env} {s : State} {m : MethodId} {below : List Frame} {meth : Method} {cd : Code} {b L : Nat} {xs : Nat → Int32} {D : va_G} {cA cL : ClassId} (C9 : zC9 p l s m meth cd b L xs D cA cL) {h hm o : Nat} {d d2 : Nat → Nat} {z : S7} {c : C5} {th : Int32} {g : Nat → Int64} (hc : okC c) (hz : okZ z) {i : Nat} (hi : i + 5 ≤ L) {cells slots : Nat} (hce : cells + 1 ≤ 1045) (hsl : slots + 6 ≤ 8314) (kk : zKK p l e s m below meth cd b D cA cL h hm o d d2 i cells slots) {H : Heap} {locs : List Loc} (hP : va_P D vwCl (zLW h d hm d2 o cA cL z c th g) H) (hD : va_D (zA s.heap.size) (zLW h d hm d2 o cA cL z c th g)) (hS : va_S (zA s.heap.size) s.heap H locs) {ls : Array Slot} (hl : lv_has ls 7 [(4, .int (nI i)), (3, .ref o), (2, .ref hm), (1, .ref h), (0, .ref b)]) : W p l e room_1 s m #[Value.ref b] below meth cd H locs cells slots (lw_Z below #[Value.ref b] s) (F0 m 993 ls []) := by
  obtain ⟨hst, hx, hb, hml, hown, hts, hX, hbl, hK, hE, hL⟩ := C9
  have hbA : ¬ zA s.heap.size b := Nat.not_le.mpr hbl
  have hf0 : cells + 0 ≤ room_1.cells ∧ slots + 0 ≤ room_1.slots := ⟨by show cells + 0 ≤ 1045; omega, by show slots + 0 ≤ 8314; omega⟩
  have hf1 : cells + 1 ≤ room_1.cells ∧ slots + 6 ≤ room_1.slots := ⟨hce, hsl⟩
  by_cases hw : zw (xs (nI (i + 1)).toNatClampNeg)
  · by_cases hp : zp (xs (nI (i + 2)).toNatClampNeg)
    · refine lv_aload_n hx hb dL_law_993 rfl (lv_at hl 3 rfl) ?_
      refine lv_aload_n hx hb dL_law_994 rfl (lv_at hl 4 rfl) ?_
      refine lv_iload hx hb dL_law_995 (lv_at hl 0 rfl) ?_
      refine lv_iconst (v := 1) hx hb dL_law_997 (by decide) ?_
      refine lv_iadd hx hb dL_law_998 ?_
      rw [show (((nI i) + 1) : Int32) = (nI (i + 1)) from (nI_add i 1)]
      refine va_sld hx hb hX hbl hbA hS (vp_in_nI (by omega) (by omega)) dL_law_999 ?_
      refine lv_aload_n hx hb dL_law_1000 rfl (lv_at hl 4 rfl) ?_
      refine lv_iload hx hb dL_law_1001 (lv_at hl 0 rfl) ?_
      refine lv_iconst (v := 2) hx hb dL_law_1003 (by decide) ?_
      refine lv_iadd hx hb dL_law_1004 ?_
      rw [show (((nI i) + 2) : Int32) = (nI (i + 2)) from (nI_add i 2)]
      refine va_sld hx hb hX hbl hbA hS (vp_in_nI (by omega) (by omega)) dL_law_1005 ?_
      refine lv_aload_n hx hb dL_law_1006 rfl (lv_at hl 1 rfl) ?_
      refine va_calli (vx_runSW (As := [.ref h, .int (xs (nI (i + 1)).toNatClampNeg), .int (xs (nI (i + 2)).toNatClampNeg), .ref o]) (rest := []) ⟨hx, hb, hml, hown, hts⟩ (c_L_framesToRung_v l D s.heap.size cA cL (wM hm d2 cA (th) z c) h d z c o g (xs (nI (i + 1)).toNatClampNeg) (xs (nI (i + 2)).toNatClampNeg) hc hw hp) (vx_cwSW 4 hts gL_law_L_framesToRung rfl rfl rfl (by decide +kernel) ⟨Nat.le_of_ble_eq_true rfl, Nat.le_of_ble_eq_true rfl⟩) ⟨zPre.blind, zPre.call (Nat.le_refl _) hP hD hK hE hS⟩ rfl rfl hl.1 rfl (lv_room (Nat.le_of_ble_eq_true rfl)) dL_law_1007 hf0) hS (fun _ _ h9 => h9) (fun _ h9 => h9) (fun r_1007 _ t H locs ht hvm h_1007 hB hz1 hk1 hS => ?_)
      have h_1007 : r_1007 = 0 := h_1007
      subst h_1007
      obtain ⟨hP, hD⟩ := hB
      rw [ht] at hP
      have hP : va_P D vwCl (wX h d cA z c ++ ((o, .inl (cL, 1, .inr (.inl (vp_updL g (0 : Int32).toNatClampNeg (zFR c (xs (nI (i + 1)).toNatClampNeg).toNatClampNeg (xs (nI (i + 2)).toNatClampNeg) z).toInt64)))) :: wM hm d2 cA (th) z c)) H := hP
      have hD : va_D (zA s.heap.size) (wX h d cA z c ++ ((o, .inl (cL, 1, .inr (.inl (vp_updL g (0 : Int32).toNatClampNeg (zFR c (xs (nI (i + 1)).toNatClampNeg).toNatClampNeg (xs (nI (i + 2)).toNatClampNeg) z).toInt64)))) :: wM hm d2 cA (th) z c)) := hD
      refine lv_istore (lv' := [(5, .int 0), (4, .int (nI i)), (3, .ref o), (2, .ref hm), (1, .ref h), (0, .ref b)]) hx hb dL_law_1010 hl (by decide) rfl (fun ls hl => ?_)
      refine lv_aload_n hx hb dL_law_1012 rfl (lv_at hl 3 rfl) ?_
      refine lv_aload_n hx hb dL_law_1013 rfl (lv_at hl 5 rfl) ?_
      refine lv_iload hx hb dL_law_1014 (lv_at hl 1 rfl) ?_
      refine lv_iconst (v := 1) hx hb dL_law_1016 (by decide) ?_
      refine lv_iadd hx hb dL_law_1017 ?_
      rw [show (((nI i) + 1) : Int32) = (nI (i + 1)) from (nI_add i 1)]
      refine va_sld hx hb hX hbl hbA hS (vp_in_nI (by omega) (by omega)) dL_law_1018 ?_
      refine lv_aload_n hx hb dL_law_1019 rfl (lv_at hl 5 rfl) ?_
      refine lv_iload hx hb dL_law_1020 (lv_at hl 1 rfl) ?_
      refine lv_iconst (v := 2) hx hb dL_law_1022 (by decide) ?_
      refine lv_iadd hx hb dL_law_1023 ?_
      rw [show (((nI i) + 2) : Int32) = (nI (i + 2)) from (nI_add i 2)]
      refine va_sld hx hb hX hbl hbA hS (vp_in_nI (by omega) (by omega)) dL_law_1024 ?_
      have hP : va_P D vwCl (wM hm d2 cA (th) z c ++ (wX h d cA z c ++ [(o, .inl (cL, 1, .inr (.inl (vp_updL g (0 : Int32).toNatClampNeg (zFR c (xs (nI (i + 1)).toNatClampNeg).toNatClampNeg (xs (nI (i + 2)).toNatClampNeg) z).toInt64))))])) H := hP.sub [9, 10, 11, 12, 13, 14, 15, 16, 0, 1, 2, 3, 4, 5, 6, 7, 8] rfl
      have hD : va_D (zA s.heap.size) (wM hm d2 cA (th) z c ++ (wX h d cA z c ++ [(o, .inl (cL, 1, .inr (.inl (vp_updL g (0 : Int32).toNatClampNeg (zFR c (xs (nI (i + 1)).toNatClampNeg).toNatClampNeg (xs (nI (i + 2)).toNatClampNeg) z).toInt64))))])) := hD.sub [9, 10, 11, 12, 13, 14, 15, 16, 0, 1, 2, 3, 4, 5, 6, 7, 8] (by decide) rfl
      refine va_calli (va_runV (As := [.int (xs (nI (i + 1)).toNatClampNeg), .int (xs (nI (i + 2)).toNatClampNeg)]) (rest := []) ⟨hx, hb, hml, hown, hts⟩ (c_X1_framesToRung_v l D s.heap.size cA cL (wX h d cA z c ++ [(o, .inl (cL, 1, .inr (.inl (vp_updL g (0 : Int32).toNatClampNeg (zFR c (xs (nI (i + 1)).toNatClampNeg).toNatClampNeg (xs (nI (i + 2)).toNatClampNeg) z).toInt64))))]) hm d2 (th) z c (xs (nI (i + 1)).toNatClampNeg) (xs (nI (i + 2)).toNatClampNeg) hc hw hp hz) (cwV 2 hts gL_law_X1_framesToRung rfl rfl rfl (by decide +kernel) ⟨Nat.le_of_ble_eq_true rfl, Nat.le_of_ble_eq_true rfl⟩) ⟨zPre.blind, va_recv hK hP (ci := 1) (q0 := 0) rfl rfl, zPre.call (Nat.le_refl _) hP hD hK hE hS⟩ rfl rfl hl.1 rfl (lv_room (Nat.le_of_ble_eq_true rfl)) dL_law_1025 hf0) hS (fun _ _ h9 => h9) (fun _ h9 => h9) (fun r_1025 _ t H locs ht hvm h_1025 hB hz1 hk1 hS => ?_)
      have h_1025 : r_1025 = (zFR c (xs (nI (i + 1)).toNatClampNeg).toNatClampNeg (xs (nI (i + 2)).toNatClampNeg) z) := h_1025
      subst h_1025
      obtain ⟨hP, hD⟩ := hB
      rw [ht] at hP
      have hP : va_P D vwCl (wM hm d2 cA (0) z c ++ (wX h d cA z c ++ [(o, .inl (cL, 1, .inr (.inl (vp_updL g (0 : Int32).toNatClampNeg (zFR c (xs (nI (i + 1)).toNatClampNeg).toNatClampNeg (xs (nI (i + 2)).toNatClampNeg) z).toInt64))))])) H := hP
      have hD : va_D (zA s.heap.size) (wM hm d2 cA (0) z c ++ (wX h d cA z c ++ [(o, .inl (cL, 1, .inr (.inl (vp_updL g (0 : Int32).toNatClampNeg (zFR c (xs (nI (i + 1)).toNatClampNeg).toNatClampNeg (xs (nI (i + 2)).toNatClampNeg) z).toInt64))))])) := hD
      refine lv_istore (lv' := [(6, .int (zFR c (xs (nI (i + 1)).toNatClampNeg).toNatClampNeg (xs (nI (i + 2)).toNatClampNeg) z)), (5, .int 0), (4, .int (nI i)), (3, .ref o), (2, .ref hm), (1, .ref h), (0, .ref b)]) hx hb dL_law_1028 hl (by decide) rfl (fun ls hl => ?_)
      refine lv_aload_n hx hb dL_law_1030 rfl (lv_at hl 4 rfl) ?_
      refine vp_callSi ((va_runV (As := []) (rest := []) ⟨hx, hb, hml, hown, hts⟩ (c_X1_thrown l D s.heap.size cA cL (wX h d cA z c ++ [(o, .inl (cL, 1, .inr (.inl (vp_updL g (0 : Int32).toNatClampNeg (zFR c (xs (nI (i + 1)).toNatClampNeg).toNatClampNeg (xs (nI (i + 2)).toNatClampNeg) z).toInt64))))]) hm d2 (0) z c  ) (cwV 0 hts gL_law_X1_thrown rfl rfl rfl (by decide +kernel) ⟨Nat.le_of_ble_eq_true rfl, Nat.le_of_ble_eq_true rfl⟩) ⟨zPre.blind, va_recv hK hP (ci := 1) (q0 := 0) rfl rfl, zPre.call (Nat.le_refl _) hP hD hK hE hS⟩ rfl rfl hl.1 rfl (lv_room (Nat.le_of_ble_eq_true rfl)) dL_law_1031 hf0).run) (fun r_1031 h_1031 => ?_)
      have h_1031 : r_1031 = 0 := h_1031
      subst h_1031
      refine lv_iload hx hb dL_law_1034 (lv_at hl 1 rfl) ?_
      refine lv_icmp_eq (tgt := 1041) hx hb dL_law_1036 (by decide) (fun _ => ?_) (fun c_1036 => absurd c_1036 (by decide))
      refine lv_iload hx hb dL_law_1041 (lv_at hl 1 rfl) ?_
      refine lv_if_ne (tgt := 1058) hx hb dL_law_1043 (by decide) (fun c_1043 => absurd c_1043 (by decide)) (fun _ => ?_)
      refine lv_aload_n hx hb dL_law_1046 rfl (lv_at hl 3 rfl) ?_
      refine lv_iconst (v := 0) hx hb dL_law_1047 (by decide) ?_
      have hP : va_P D vwCl (wX h d cA z c ++ ((o, .inl (cL, 1, .inr (.inl (vp_updL g (0 : Int32).toNatClampNeg (zFR c (xs (nI (i + 1)).toNatClampNeg).toNatClampNeg (xs (nI (i + 2)).toNatClampNeg) z).toInt64)))) :: wM hm d2 cA (0) z c)) H := hP.sub [8, 9, 10, 11, 12, 13, 14, 15, 16, 0, 1, 2, 3, 4, 5, 6, 7] rfl
      have hD : va_D (zA s.heap.size) (wX h d cA z c ++ ((o, .inl (cL, 1, .inr (.inl (vp_updL g (0 : Int32).toNatClampNeg (zFR c (xs (nI (i + 1)).toNatClampNeg).toNatClampNeg (xs (nI (i + 2)).toNatClampNeg) z).toInt64)))) :: wM hm d2 cA (0) z c)) := hD.sub [8, 9, 10, 11, 12, 13, 14, 15, 16, 0, 1, 2, 3, 4, 5, 6, 7] (by decide) rfl
      refine va_lald hx hb hK hP 8 1 rfl rfl (vp_in_nI (n := 0) (by decide) (by decide)) dL_law_1048 ?_
      rw [show ((vp_updL g (0 : Int32).toNatClampNeg (zFR c (xs (nI (i + 1)).toNatClampNeg).toNatClampNeg (xs (nI (i + 2)).toNatClampNeg) z).toInt64) (0 : Int32).toNatClampNeg : Int64) = (zFR c (xs (nI (i + 1)).toNatClampNeg).toNatClampNeg (xs (nI (i + 2)).toNatClampNeg) z).toInt64 from pk_uLs]
      refine lv_iload hx hb dL_law_1049 (lv_at hl 0 rfl) ?_
      refine lv_i2l hx hb dL_law_1051 rfl ?_
      refine W.lcmp hx hb dL_law_1052 ?_
      rw [show lg_cmp ((zFR c (xs (nI (i + 1)).toNatClampNeg).toNatClampNeg (xs (nI (i + 2)).toNatClampNeg) z).toInt64) ((zFR c (xs (nI (i + 1)).toNatClampNeg).toNatClampNeg (xs (nI (i + 2)).toNatClampNeg) z).toInt64) = 0 from zcmp _]
      refine lv_if_eq (tgt := 1058) hx hb dL_law_1053 (by decide) (fun _ => ?_) (fun c_1053 => absurd c_1053 (by decide))
      refine lv_goto (tgt := 1254) hx hb dL_law_1058 (by decide) ?_
      refine W.widen (k := cells + 1) (n := slots + 6) (by omega) (by omega) ?_
      exact kk z c (0) (vp_updL g (0 : Int32).toNatClampNeg (zFR c (xs (nI (i + 1)).toNatClampNeg).toNatClampNeg (xs (nI (i + 2)).toNatClampNeg) z).toInt64) hc hz _ _ hP hD hS ls (lv_sub hl [2, 3, 4, 5, 6] rfl)
    · refine lv_aload_n hx hb dL_law_993 rfl (lv_at hl 3 rfl) ?_
      refine lv_aload_n hx hb dL_law_994 rfl (lv_at hl 4 rfl) ?_
      refine lv_iload hx hb dL_law_995 (lv_at hl 0 rfl) ?_
      refine lv_iconst (v := 1) hx hb dL_law_997 (by decide) ?_
      refine lv_iadd hx hb dL_law_998 ?_
      rw [show (((nI i) + 1) : Int32) = (nI (i + 1)) from (nI_add i 1)]
      refine va_sld hx hb hX hbl hbA hS (vp_in_nI (by omega) (by omega)) dL_law_999 ?_
      refine lv_aload_n hx hb dL_law_1000 rfl (lv_at hl 4 rfl) ?_
      refine lv_iload hx hb dL_law_1001 (lv_at hl 0 rfl) ?_
      refine lv_iconst (v := 2) hx hb dL_law_1003 (by decide) ?_
      refine lv_iadd hx hb dL_law_1004 ?_
      rw [show (((nI i) + 2) : Int32) = (nI (i + 2)) from (nI_add i 2)]
      refine va_sld hx hb hX hbl hbA hS (vp_in_nI (by omega) (by omega)) dL_law_1005 ?_
      refine lv_aload_n hx hb dL_law_1006 rfl (lv_at hl 1 rfl) ?_
      refine va_calli (vx_runSW (As := [.ref h, .int (xs (nI (i + 1)).toNatClampNeg), .int (xs (nI (i + 2)).toNatClampNeg), .ref o]) (rest := []) ⟨hx, hb, hml, hown, hts⟩ (c_L_framesToRung_2 l hst D s.heap.size cA cL (wM hm d2 cA (th) z c) h d z c o g (xs (nI (i + 1)).toNatClampNeg) (xs (nI (i + 2)).toNatClampNeg) hw hp) (vx_cwSW 4 hts gL_law_L_framesToRung rfl rfl rfl (by decide +kernel) ⟨Nat.le_of_ble_eq_true rfl, Nat.le_of_ble_eq_true rfl⟩) ⟨zPre.blind, zPre.call (Nat.le_refl _) hP hD hK hE hS⟩ rfl rfl hl.1 rfl (lv_room (Nat.le_of_ble_eq_true rfl)) dL_law_1007 hf1) hS (fun _ _ h9 => h9) (fun _ h9 => h9) (fun r_1007 _ t H locs ht hvm h_1007 hB hz1 hk1 hS => ?_)
      have h_1007 : r_1007 = 2 := h_1007
      subst h_1007
      obtain ⟨hP, hD⟩ := hB
      rw [ht] at hP
      have hP : va_P D vwCl (wX h d cA z c ++ ((o, .inl (cL, 1, .inr (.inl g))) :: wM hm d2 cA (th) z c)) H := hP
      have hD : va_D (zA s.heap.size) (wX h d cA z c ++ ((o, .inl (cL, 1, .inr (.inl g))) :: wM hm d2 cA (th) z c)) := hD
      refine lv_istore (lv' := [(5, .int 2), (4, .int (nI i)), (3, .ref o), (2, .ref hm), (1, .ref h), (0, .ref b)]) hx hb dL_law_1010 hl (by decide) rfl (fun ls hl => ?_)
      refine lv_aload_n hx hb dL_law_1012 rfl (lv_at hl 3 rfl) ?_
      refine lv_aload_n hx hb dL_law_1013 rfl (lv_at hl 5 rfl) ?_
      refine lv_iload hx hb dL_law_1014 (lv_at hl 1 rfl) ?_
      refine lv_iconst (v := 1) hx hb dL_law_1016 (by decide) ?_
      refine lv_iadd hx hb dL_law_1017 ?_
      rw [show (((nI i) + 1) : Int32) = (nI (i + 1)) from (nI_add i 1)]
      refine va_sld hx hb hX hbl hbA hS (vp_in_nI (by omega) (by omega)) dL_law_1018 ?_
      refine lv_aload_n hx hb dL_law_1019 rfl (lv_at hl 5 rfl) ?_
      refine lv_iload hx hb dL_law_1020 (lv_at hl 1 rfl) ?_
      refine lv_iconst (v := 2) hx hb dL_law_1022 (by decide) ?_
      refine lv_iadd hx hb dL_law_1023 ?_
      rw [show (((nI i) + 2) : Int32) = (nI (i + 2)) from (nI_add i 2)]
      refine va_sld hx hb hX hbl hbA hS (vp_in_nI (by omega) (by omega)) dL_law_1024 ?_
      have hP : va_P D vwCl (wM hm d2 cA (th) z c ++ (wX h d cA z c ++ [(o, .inl (cL, 1, .inr (.inl g)))])) H := hP.sub [9, 10, 11, 12, 13, 14, 15, 16, 0, 1, 2, 3, 4, 5, 6, 7, 8] rfl
      have hD : va_D (zA s.heap.size) (wM hm d2 cA (th) z c ++ (wX h d cA z c ++ [(o, .inl (cL, 1, .inr (.inl g)))])) := hD.sub [9, 10, 11, 12, 13, 14, 15, 16, 0, 1, 2, 3, 4, 5, 6, 7, 8] (by decide) rfl
      refine va_calli (va_runV (As := [.int (xs (nI (i + 1)).toNatClampNeg), .int (xs (nI (i + 2)).toNatClampNeg)]) (rest := []) ⟨hx, hb, hml, hown, hts⟩ (c_X1_framesToRung_2 l D s.heap.size cA cL (wX h d cA z c ++ [(o, .inl (cL, 1, .inr (.inl g)))]) hm d2 (th) z c (xs (nI (i + 1)).toNatClampNeg) (xs (nI (i + 2)).toNatClampNeg) hw hp) (cwV 2 hts gL_law_X1_framesToRung rfl rfl rfl (by decide +kernel) ⟨Nat.le_of_ble_eq_true rfl, Nat.le_of_ble_eq_true rfl⟩) ⟨zPre.blind, va_recv hK hP (ci := 1) (q0 := 0) rfl rfl, zPre.call (Nat.le_refl _) hP hD hK hE hS⟩ rfl rfl hl.1 rfl (lv_room (Nat.le_of_ble_eq_true rfl)) dL_law_1025 hf1) hS (fun _ _ h9 => h9) (fun _ h9 => h9) (fun r_1025 _ t H locs ht hvm h_1025 hB hz1 hk1 hS => ?_)
      have h_1025 : r_1025 = (0) := h_1025
      subst h_1025
      obtain ⟨hP, hD⟩ := hB
      rw [ht] at hP
      have hP : va_P D vwCl (wM hm d2 cA (2) z c ++ (wX h d cA z c ++ [(o, .inl (cL, 1, .inr (.inl g)))])) H := hP
      have hD : va_D (zA s.heap.size) (wM hm d2 cA (2) z c ++ (wX h d cA z c ++ [(o, .inl (cL, 1, .inr (.inl g)))])) := hD
      refine lv_istore (lv' := [(6, .int 0), (5, .int 2), (4, .int (nI i)), (3, .ref o), (2, .ref hm), (1, .ref h), (0, .ref b)]) hx hb dL_law_1028 hl (by decide) rfl (fun ls hl => ?_)
      refine lv_aload_n hx hb dL_law_1030 rfl (lv_at hl 4 rfl) ?_
      refine vp_callSi ((va_runV (As := []) (rest := []) ⟨hx, hb, hml, hown, hts⟩ (c_X1_thrown l D s.heap.size cA cL (wX h d cA z c ++ [(o, .inl (cL, 1, .inr (.inl g)))]) hm d2 (2) z c  ) (cwV 0 hts gL_law_X1_thrown rfl rfl rfl (by decide +kernel) ⟨Nat.le_of_ble_eq_true rfl, Nat.le_of_ble_eq_true rfl⟩) ⟨zPre.blind, va_recv hK hP (ci := 1) (q0 := 0) rfl rfl, zPre.call (Nat.le_refl _) hP hD hK hE hS⟩ rfl rfl hl.1 rfl (lv_room (Nat.le_of_ble_eq_true rfl)) dL_law_1031 hf1).run) (fun r_1031 h_1031 => ?_)
      have h_1031 : r_1031 = 2 := h_1031
      subst h_1031
      refine lv_iload hx hb dL_law_1034 (lv_at hl 1 rfl) ?_
      refine lv_icmp_eq (tgt := 1041) hx hb dL_law_1036 (by decide) (fun _ => ?_) (fun c_1036 => absurd c_1036 (by decide))
      refine lv_iload hx hb dL_law_1041 (lv_at hl 1 rfl) ?_
      refine lv_if_ne (tgt := 1058) hx hb dL_law_1043 (by decide) (fun _ => ?_) (fun c_1043 => absurd c_1043 (by decide))
      refine lv_goto (tgt := 1254) hx hb dL_law_1058 (by decide) ?_
      have hP : va_P D vwCl (wX h d cA z c ++ ((o, .inl (cL, 1, .inr (.inl g))) :: wM hm d2 cA (2) z c)) H := hP.sub [8, 9, 10, 11, 12, 13, 14, 15, 16, 0, 1, 2, 3, 4, 5, 6, 7] rfl
      have hD : va_D (zA s.heap.size) (wX h d cA z c ++ ((o, .inl (cL, 1, .inr (.inl g))) :: wM hm d2 cA (2) z c)) := hD.sub [8, 9, 10, 11, 12, 13, 14, 15, 16, 0, 1, 2, 3, 4, 5, 6, 7] (by decide) rfl
      refine W.widen (k := cells + 1) (n := slots + 6) (by omega) (by omega) ?_
      exact kk z c (2) g hc hz _ _ hP hD hS ls (lv_sub hl [2, 3, 4, 5, 6] rfl)
  · refine lv_aload_n hx hb dL_law_993 rfl (lv_at hl 3 rfl) ?_
    refine lv_aload_n hx hb dL_law_994 rfl (lv_at hl 4 rfl) ?_
    refine lv_iload hx hb dL_law_995 (lv_at hl 0 rfl) ?_
    refine lv_iconst (v := 1) hx hb dL_law_997 (by decide) ?_
    refine lv_iadd hx hb dL_law_998 ?_
    rw [show (((nI i) + 1) : Int32) = (nI (i + 1)) from (nI_add i 1)]
    refine va_sld hx hb hX hbl hbA hS (vp_in_nI (by omega) (by omega)) dL_law_999 ?_
    refine lv_aload_n hx hb dL_law_1000 rfl (lv_at hl 4 rfl) ?_
    refine lv_iload hx hb dL_law_1001 (lv_at hl 0 rfl) ?_
    refine lv_iconst (v := 2) hx hb dL_law_1003 (by decide) ?_
    refine lv_iadd hx hb dL_law_1004 ?_
    rw [show (((nI i) + 2) : Int32) = (nI (i + 2)) from (nI_add i 2)]
    refine va_sld hx hb hX hbl hbA hS (vp_in_nI (by omega) (by omega)) dL_law_1005 ?_
    refine lv_aload_n hx hb dL_law_1006 rfl (lv_at hl 1 rfl) ?_
    refine va_calli (vx_runSW (As := [.ref h, .int (xs (nI (i + 1)).toNatClampNeg), .int (xs (nI (i + 2)).toNatClampNeg), .ref o]) (rest := []) ⟨hx, hb, hml, hown, hts⟩ (c_L_framesToRung_1 l hst D s.heap.size cA cL (wM hm d2 cA (th) z c) h d z c o g (xs (nI (i + 1)).toNatClampNeg) (xs (nI (i + 2)).toNatClampNeg) hw) (vx_cwSW 4 hts gL_law_L_framesToRung rfl rfl rfl (by decide +kernel) ⟨Nat.le_of_ble_eq_true rfl, Nat.le_of_ble_eq_true rfl⟩) ⟨zPre.blind, zPre.call (Nat.le_refl _) hP hD hK hE hS⟩ rfl rfl hl.1 rfl (lv_room (Nat.le_of_ble_eq_true rfl)) dL_law_1007 hf1) hS (fun _ _ h9 => h9) (fun _ h9 => h9) (fun r_1007 _ t H locs ht hvm h_1007 hB hz1 hk1 hS => ?_)
    have h_1007 : r_1007 = 1 := h_1007
    subst h_1007
    obtain ⟨hP, hD⟩ := hB
    rw [ht] at hP
    have hP : va_P D vwCl (wX h d cA z c ++ ((o, .inl (cL, 1, .inr (.inl g))) :: wM hm d2 cA (th) z c)) H := hP
    have hD : va_D (zA s.heap.size) (wX h d cA z c ++ ((o, .inl (cL, 1, .inr (.inl g))) :: wM hm d2 cA (th) z c)) := hD
    refine lv_istore (lv' := [(5, .int 1), (4, .int (nI i)), (3, .ref o), (2, .ref hm), (1, .ref h), (0, .ref b)]) hx hb dL_law_1010 hl (by decide) rfl (fun ls hl => ?_)
    refine lv_aload_n hx hb dL_law_1012 rfl (lv_at hl 3 rfl) ?_
    refine lv_aload_n hx hb dL_law_1013 rfl (lv_at hl 5 rfl) ?_
    refine lv_iload hx hb dL_law_1014 (lv_at hl 1 rfl) ?_
    refine lv_iconst (v := 1) hx hb dL_law_1016 (by decide) ?_
    refine lv_iadd hx hb dL_law_1017 ?_
    rw [show (((nI i) + 1) : Int32) = (nI (i + 1)) from (nI_add i 1)]
    refine va_sld hx hb hX hbl hbA hS (vp_in_nI (by omega) (by omega)) dL_law_1018 ?_
    refine lv_aload_n hx hb dL_law_1019 rfl (lv_at hl 5 rfl) ?_
    refine lv_iload hx hb dL_law_1020 (lv_at hl 1 rfl) ?_
    refine lv_iconst (v := 2) hx hb dL_law_1022 (by decide) ?_
    refine lv_iadd hx hb dL_law_1023 ?_
    rw [show (((nI i) + 2) : Int32) = (nI (i + 2)) from (nI_add i 2)]
    refine va_sld hx hb hX hbl hbA hS (vp_in_nI (by omega) (by omega)) dL_law_1024 ?_
    have hP : va_P D vwCl (wM hm d2 cA (th) z c ++ (wX h d cA z c ++ [(o, .inl (cL, 1, .inr (.inl g)))])) H := hP.sub [9, 10, 11, 12, 13, 14, 15, 16, 0, 1, 2, 3, 4, 5, 6, 7, 8] rfl
    have hD : va_D (zA s.heap.size) (wM hm d2 cA (th) z c ++ (wX h d cA z c ++ [(o, .inl (cL, 1, .inr (.inl g)))])) := hD.sub [9, 10, 11, 12, 13, 14, 15, 16, 0, 1, 2, 3, 4, 5, 6, 7, 8] (by decide) rfl
    refine va_calli (va_runV (As := [.int (xs (nI (i + 1)).toNatClampNeg), .int (xs (nI (i + 2)).toNatClampNeg)]) (rest := []) ⟨hx, hb, hml, hown, hts⟩ (c_X1_framesToRung_1 l D s.heap.size cA cL (wX h d cA z c ++ [(o, .inl (cL, 1, .inr (.inl g)))]) hm d2 (th) z c (xs (nI (i + 1)).toNatClampNeg) (xs (nI (i + 2)).toNatClampNeg) hw) (cwV 2 hts gL_law_X1_framesToRung rfl rfl rfl (by decide +kernel) ⟨Nat.le_of_ble_eq_true rfl, Nat.le_of_ble_eq_true rfl⟩) ⟨zPre.blind, va_recv hK hP (ci := 1) (q0 := 0) rfl rfl, zPre.call (Nat.le_refl _) hP hD hK hE hS⟩ rfl rfl hl.1 rfl (lv_room (Nat.le_of_ble_eq_true rfl)) dL_law_1025 hf1) hS (fun _ _ h9 => h9) (fun _ h9 => h9) (fun r_1025 _ t H locs ht hvm h_1025 hB hz1 hk1 hS => ?_)
    have h_1025 : r_1025 = (0) := h_1025
    subst h_1025
    obtain ⟨hP, hD⟩ := hB
    rw [ht] at hP
    have hP : va_P D vwCl (wM hm d2 cA (1) z c ++ (wX h d cA z c ++ [(o, .inl (cL, 1, .inr (.inl g)))])) H := hP
    have hD : va_D (zA s.heap.size) (wM hm d2 cA (1) z c ++ (wX h d cA z c ++ [(o, .inl (cL, 1, .inr (.inl g)))])) := hD
    refine lv_istore (lv' := [(6, .int 0), (5, .int 1), (4, .int (nI i)), (3, .ref o), (2, .ref hm), (1, .ref h), (0, .ref b)]) hx hb dL_law_1028 hl (by decide) rfl (fun ls hl => ?_)
    refine lv_aload_n hx hb dL_law_1030 rfl (lv_at hl 4 rfl) ?_
    refine vp_callSi ((va_runV (As := []) (rest := []) ⟨hx, hb, hml, hown, hts⟩ (c_X1_thrown l D s.heap.size cA cL (wX h d cA z c ++ [(o, .inl (cL, 1, .inr (.inl g)))]) hm d2 (1) z c  ) (cwV 0 hts gL_law_X1_thrown rfl rfl rfl (by decide +kernel) ⟨Nat.le_of_ble_eq_true rfl, Nat.le_of_ble_eq_true rfl⟩) ⟨zPre.blind, va_recv hK hP (ci := 1) (q0 := 0) rfl rfl, zPre.call (Nat.le_refl _) hP hD hK hE hS⟩ rfl rfl hl.1 rfl (lv_room (Nat.le_of_ble_eq_true rfl)) dL_law_1031 hf1).run) (fun r_1031 h_1031 => ?_)
    have h_1031 : r_1031 = 1 := h_1031
    subst h_1031
    refine lv_iload hx hb dL_law_1034 (lv_at hl 1 rfl) ?_
    refine lv_icmp_eq (tgt := 1041) hx hb dL_law_1036 (by decide) (fun _ => ?_) (fun c_1036 => absurd c_1036 (by decide))
    refine lv_iload hx hb dL_law_1041 (lv_at hl 1 rfl) ?_
    refine lv_if_ne (tgt := 1058) hx hb dL_law_1043 (by decide) (fun _ => ?_) (fun c_1043 => absurd c_1043 (by decide))
    refine lv_goto (tgt := 1254) hx hb dL_law_1058 (by decide) ?_
    have hP : va_P D vwCl (wX h d cA z c ++ ((o, .inl (cL, 1, .inr (.inl g))) :: wM hm d2 cA (1) z c)) H := hP.sub [8, 9, 10, 11, 12, 13, 14, 15, 16, 0, 1, 2, 3, 4, 5, 6, 7] rfl
    have hD : va_D (zA s.heap.size) (wX h d cA z c ++ ((o, .inl (cL, 1, .inr (.inl g))) :: wM hm d2 cA (1) z c)) := hD.sub [8, 9, 10, 11, 12, 13, 14, 15, 16, 0, 1, 2, 3, 4, 5, 6, 7] (by decide) rfl
    refine W.widen (k := cells + 1) (n := slots + 6) (by omega) (by omega) ?_
    exact kk z c (1) g hc hz _ _ hP hD hS ls (lv_sub hl [2, 3, 4, 5, 6] rfl)

set_option maxHeartbeats 8000000 in
set_option maxRecDepth 100000 in
theorem law_16 {p : Program} {l : Launch} {e : Env} {s : State} {m : MethodId} {below : List Frame} {meth : Method} {cd : Code} {b L : Nat} {xs : Nat → Int32} {D : va_G} {cA cL : ClassId} (C9 : zC9 p l s m meth cd b L xs D cA cL) {h hm o : Nat} {d d2 : Nat → Nat} {z : S7} {c : C5} {th : Int32} {g : Nat → Int64} (hc : okC c) (hz : okZ z) {i : Nat} (hi : i + 5 ≤ L) {cells slots : Nat} (hce : cells + 1 ≤ 1045) (hsl : slots + 6 ≤ 8314) (kk : zKK p l e s m below meth cd b D cA cL h hm o d d2 i cells slots) {H : Heap} {locs : List Loc} (hP : va_P D vwCl (zLW h d hm d2 o cA cL z c th g) H) (hD : va_D (zA s.heap.size) (zLW h d hm d2 o cA cL z c th g)) (hS : va_S (zA s.heap.size) s.heap H locs) {ls : Array Slot} (hl : lv_has ls 7 [(4, .int (nI i)), (3, .ref o), (2, .ref hm), (1, .ref h), (0, .ref b)]) : W p l e room_1 s m #[Value.ref b] below meth cd H locs cells slots (lw_Z below #[Value.ref b] s) (F0 m 1061 ls []) := by
  obtain ⟨hst, hx, hb, hml, hown, hts, hX, hbl, hK, hE, hL⟩ := C9
  have hbA : ¬ zA s.heap.size b := Nat.not_le.mpr hbl
  have hf0 : cells + 0 ≤ room_1.cells ∧ slots + 0 ≤ room_1.slots := ⟨by show cells + 0 ≤ 1045; omega, by show slots + 0 ≤ 8314; omega⟩
  have hf1 : cells + 1 ≤ room_1.cells ∧ slots + 6 ≤ room_1.slots := ⟨hce, hsl⟩
  by_cases hk : 0 ≤ (xs (nI (i + 1)).toNatClampNeg) ∧ (xs (nI (i + 1)).toNatClampNeg) ≤ 11
  · refine lv_aload_n hx hb dL_law_1061 rfl (lv_at hl 3 rfl) ?_
    refine lv_aload_n hx hb dL_law_1062 rfl (lv_at hl 4 rfl) ?_
    refine lv_iload hx hb dL_law_1063 (lv_at hl 0 rfl) ?_
    refine lv_iconst (v := 1) hx hb dL_law_1065 (by decide) ?_
    refine lv_iadd hx hb dL_law_1066 ?_
    rw [show (((nI i) + 1) : Int32) = (nI (i + 1)) from (nI_add i 1)]
    refine va_sld hx hb hX hbl hbA hS (vp_in_nI (by omega) (by omega)) dL_law_1067 ?_
    refine lv_aload_n hx hb dL_law_1068 rfl (lv_at hl 1 rfl) ?_
    refine va_calli (vx_runSW (As := [.ref h, .int (xs (nI (i + 1)).toNatClampNeg), .ref o]) (rest := []) ⟨hx, hb, hml, hown, hts⟩ (c_L_sung_v l D s.heap.size cA cL (wM hm d2 cA (th) z c) h d z c o g (xs (nI (i + 1)).toNatClampNeg) hk) (vx_cwSW 3 hts gL_law_L_sung rfl rfl rfl (by decide +kernel) ⟨Nat.le_of_ble_eq_true rfl, Nat.le_of_ble_eq_true rfl⟩) ⟨zPre.blind, zPre.call (Nat.le_refl _) hP hD hK hE hS⟩ rfl rfl hl.1 rfl (lv_room (Nat.le_of_ble_eq_true rfl)) dL_law_1069 hf0) hS (fun _ _ h9 => h9) (fun _ h9 => h9) (fun r_1069 _ t H locs ht hvm h_1069 hB hz1 hk1 hS => ?_)
    have h_1069 : r_1069 = 0 := h_1069
    subst h_1069
    obtain ⟨hP, hD⟩ := hB
    rw [ht] at hP
    have hP : va_P D vwCl (wX h d cA z c ++ ((o, .inl (cL, 1, .inr (.inl (vp_updL g (0 : Int32).toNatClampNeg (z.2.2.2.2.2.2 (xs (nI (i + 1)).toNatClampNeg).toNatClampNeg).toInt64)))) :: wM hm d2 cA (th) z c)) H := hP
    have hD : va_D (zA s.heap.size) (wX h d cA z c ++ ((o, .inl (cL, 1, .inr (.inl (vp_updL g (0 : Int32).toNatClampNeg (z.2.2.2.2.2.2 (xs (nI (i + 1)).toNatClampNeg).toNatClampNeg).toInt64)))) :: wM hm d2 cA (th) z c)) := hD
    refine lv_istore (lv' := [(5, .int 0), (4, .int (nI i)), (3, .ref o), (2, .ref hm), (1, .ref h), (0, .ref b)]) hx hb dL_law_1072 hl (by decide) rfl (fun ls hl => ?_)
    refine lv_aload_n hx hb dL_law_1074 rfl (lv_at hl 3 rfl) ?_
    refine lv_aload_n hx hb dL_law_1075 rfl (lv_at hl 5 rfl) ?_
    refine lv_iload hx hb dL_law_1076 (lv_at hl 1 rfl) ?_
    refine lv_iconst (v := 1) hx hb dL_law_1078 (by decide) ?_
    refine lv_iadd hx hb dL_law_1079 ?_
    rw [show (((nI i) + 1) : Int32) = (nI (i + 1)) from (nI_add i 1)]
    refine va_sld hx hb hX hbl hbA hS (vp_in_nI (by omega) (by omega)) dL_law_1080 ?_
    have hP : va_P D vwCl (wM hm d2 cA (th) z c ++ (wX h d cA z c ++ [(o, .inl (cL, 1, .inr (.inl (vp_updL g (0 : Int32).toNatClampNeg (z.2.2.2.2.2.2 (xs (nI (i + 1)).toNatClampNeg).toNatClampNeg).toInt64))))])) H := hP.sub [9, 10, 11, 12, 13, 14, 15, 16, 0, 1, 2, 3, 4, 5, 6, 7, 8] rfl
    have hD : va_D (zA s.heap.size) (wM hm d2 cA (th) z c ++ (wX h d cA z c ++ [(o, .inl (cL, 1, .inr (.inl (vp_updL g (0 : Int32).toNatClampNeg (z.2.2.2.2.2.2 (xs (nI (i + 1)).toNatClampNeg).toNatClampNeg).toInt64))))])) := hD.sub [9, 10, 11, 12, 13, 14, 15, 16, 0, 1, 2, 3, 4, 5, 6, 7, 8] (by decide) rfl
    refine va_calli (va_runV (As := [.int (xs (nI (i + 1)).toNatClampNeg)]) (rest := []) ⟨hx, hb, hml, hown, hts⟩ (c_X1_sung_v l D s.heap.size cA cL (wX h d cA z c ++ [(o, .inl (cL, 1, .inr (.inl (vp_updL g (0 : Int32).toNatClampNeg (z.2.2.2.2.2.2 (xs (nI (i + 1)).toNatClampNeg).toNatClampNeg).toInt64))))]) hm d2 (th) z c (xs (nI (i + 1)).toNatClampNeg) hk) (cwV 1 hts gL_law_X1_sung rfl rfl rfl (by decide +kernel) ⟨Nat.le_of_ble_eq_true rfl, Nat.le_of_ble_eq_true rfl⟩) ⟨zPre.blind, va_recv hK hP (ci := 1) (q0 := 0) rfl rfl, zPre.call (Nat.le_refl _) hP hD hK hE hS⟩ rfl rfl hl.1 rfl (lv_room (Nat.le_of_ble_eq_true rfl)) dL_law_1081 hf0) hS (fun _ _ h9 => h9) (fun _ h9 => h9) (fun r_1081 _ t H locs ht hvm h_1081 hB hz1 hk1 hS => ?_)
    have h_1081 : r_1081 = (z.2.2.2.2.2.2 (xs (nI (i + 1)).toNatClampNeg).toNatClampNeg) := h_1081
    subst h_1081
    obtain ⟨hP, hD⟩ := hB
    rw [ht] at hP
    have hP : va_P D vwCl (wM hm d2 cA (0) z c ++ (wX h d cA z c ++ [(o, .inl (cL, 1, .inr (.inl (vp_updL g (0 : Int32).toNatClampNeg (z.2.2.2.2.2.2 (xs (nI (i + 1)).toNatClampNeg).toNatClampNeg).toInt64))))])) H := hP
    have hD : va_D (zA s.heap.size) (wM hm d2 cA (0) z c ++ (wX h d cA z c ++ [(o, .inl (cL, 1, .inr (.inl (vp_updL g (0 : Int32).toNatClampNeg (z.2.2.2.2.2.2 (xs (nI (i + 1)).toNatClampNeg).toNatClampNeg).toInt64))))])) := hD
    refine lv_istore (lv' := [(6, .int (z.2.2.2.2.2.2 (xs (nI (i + 1)).toNatClampNeg).toNatClampNeg)), (5, .int 0), (4, .int (nI i)), (3, .ref o), (2, .ref hm), (1, .ref h), (0, .ref b)]) hx hb dL_law_1084 hl (by decide) rfl (fun ls hl => ?_)
    refine lv_aload_n hx hb dL_law_1086 rfl (lv_at hl 4 rfl) ?_
    refine vp_callSi ((va_runV (As := []) (rest := []) ⟨hx, hb, hml, hown, hts⟩ (c_X1_thrown l D s.heap.size cA cL (wX h d cA z c ++ [(o, .inl (cL, 1, .inr (.inl (vp_updL g (0 : Int32).toNatClampNeg (z.2.2.2.2.2.2 (xs (nI (i + 1)).toNatClampNeg).toNatClampNeg).toInt64))))]) hm d2 (0) z c  ) (cwV 0 hts gL_law_X1_thrown rfl rfl rfl (by decide +kernel) ⟨Nat.le_of_ble_eq_true rfl, Nat.le_of_ble_eq_true rfl⟩) ⟨zPre.blind, va_recv hK hP (ci := 1) (q0 := 0) rfl rfl, zPre.call (Nat.le_refl _) hP hD hK hE hS⟩ rfl rfl hl.1 rfl (lv_room (Nat.le_of_ble_eq_true rfl)) dL_law_1087 hf0).run) (fun r_1087 h_1087 => ?_)
    have h_1087 : r_1087 = 0 := h_1087
    subst h_1087
    refine lv_iload hx hb dL_law_1090 (lv_at hl 1 rfl) ?_
    refine lv_icmp_eq (tgt := 1097) hx hb dL_law_1092 (by decide) (fun _ => ?_) (fun c_1092 => absurd c_1092 (by decide))
    refine lv_iload hx hb dL_law_1097 (lv_at hl 1 rfl) ?_
    refine lv_if_ne (tgt := 1114) hx hb dL_law_1099 (by decide) (fun c_1099 => absurd c_1099 (by decide)) (fun _ => ?_)
    refine lv_aload_n hx hb dL_law_1102 rfl (lv_at hl 3 rfl) ?_
    refine lv_iconst (v := 0) hx hb dL_law_1103 (by decide) ?_
    have hP : va_P D vwCl (wX h d cA z c ++ ((o, .inl (cL, 1, .inr (.inl (vp_updL g (0 : Int32).toNatClampNeg (z.2.2.2.2.2.2 (xs (nI (i + 1)).toNatClampNeg).toNatClampNeg).toInt64)))) :: wM hm d2 cA (0) z c)) H := hP.sub [8, 9, 10, 11, 12, 13, 14, 15, 16, 0, 1, 2, 3, 4, 5, 6, 7] rfl
    have hD : va_D (zA s.heap.size) (wX h d cA z c ++ ((o, .inl (cL, 1, .inr (.inl (vp_updL g (0 : Int32).toNatClampNeg (z.2.2.2.2.2.2 (xs (nI (i + 1)).toNatClampNeg).toNatClampNeg).toInt64)))) :: wM hm d2 cA (0) z c)) := hD.sub [8, 9, 10, 11, 12, 13, 14, 15, 16, 0, 1, 2, 3, 4, 5, 6, 7] (by decide) rfl
    refine va_lald hx hb hK hP 8 1 rfl rfl (vp_in_nI (n := 0) (by decide) (by decide)) dL_law_1104 ?_
    rw [show ((vp_updL g (0 : Int32).toNatClampNeg (z.2.2.2.2.2.2 (xs (nI (i + 1)).toNatClampNeg).toNatClampNeg).toInt64) (0 : Int32).toNatClampNeg : Int64) = (z.2.2.2.2.2.2 (xs (nI (i + 1)).toNatClampNeg).toNatClampNeg).toInt64 from pk_uLs]
    refine lv_iload hx hb dL_law_1105 (lv_at hl 0 rfl) ?_
    refine lv_i2l hx hb dL_law_1107 rfl ?_
    refine W.lcmp hx hb dL_law_1108 ?_
    rw [show lg_cmp ((z.2.2.2.2.2.2 (xs (nI (i + 1)).toNatClampNeg).toNatClampNeg).toInt64) ((z.2.2.2.2.2.2 (xs (nI (i + 1)).toNatClampNeg).toNatClampNeg).toInt64) = 0 from zcmp _]
    refine lv_if_eq (tgt := 1114) hx hb dL_law_1109 (by decide) (fun _ => ?_) (fun c_1109 => absurd c_1109 (by decide))
    refine lv_goto (tgt := 1254) hx hb dL_law_1114 (by decide) ?_
    refine W.widen (k := cells + 1) (n := slots + 6) (by omega) (by omega) ?_
    exact kk z c (0) (vp_updL g (0 : Int32).toNatClampNeg (z.2.2.2.2.2.2 (xs (nI (i + 1)).toNatClampNeg).toNatClampNeg).toInt64) hc hz _ _ hP hD hS ls (lv_sub hl [2, 3, 4, 5, 6] rfl)
  · refine lv_aload_n hx hb dL_law_1061 rfl (lv_at hl 3 rfl) ?_
    refine lv_aload_n hx hb dL_law_1062 rfl (lv_at hl 4 rfl) ?_
    refine lv_iload hx hb dL_law_1063 (lv_at hl 0 rfl) ?_
    refine lv_iconst (v := 1) hx hb dL_law_1065 (by decide) ?_
    refine lv_iadd hx hb dL_law_1066 ?_
    rw [show (((nI i) + 1) : Int32) = (nI (i + 1)) from (nI_add i 1)]
    refine va_sld hx hb hX hbl hbA hS (vp_in_nI (by omega) (by omega)) dL_law_1067 ?_
    refine lv_aload_n hx hb dL_law_1068 rfl (lv_at hl 1 rfl) ?_
    refine va_calli (vx_runSW (As := [.ref h, .int (xs (nI (i + 1)).toNatClampNeg), .ref o]) (rest := []) ⟨hx, hb, hml, hown, hts⟩ (c_L_sung_1 l hst D s.heap.size cA cL (wM hm d2 cA (th) z c) h d z c o g (xs (nI (i + 1)).toNatClampNeg) hk) (vx_cwSW 3 hts gL_law_L_sung rfl rfl rfl (by decide +kernel) ⟨Nat.le_of_ble_eq_true rfl, Nat.le_of_ble_eq_true rfl⟩) ⟨zPre.blind, zPre.call (Nat.le_refl _) hP hD hK hE hS⟩ rfl rfl hl.1 rfl (lv_room (Nat.le_of_ble_eq_true rfl)) dL_law_1069 hf1) hS (fun _ _ h9 => h9) (fun _ h9 => h9) (fun r_1069 _ t H locs ht hvm h_1069 hB hz1 hk1 hS => ?_)
    have h_1069 : r_1069 = 1 := h_1069
    subst h_1069
    obtain ⟨hP, hD⟩ := hB
    rw [ht] at hP
    have hP : va_P D vwCl (wX h d cA z c ++ ((o, .inl (cL, 1, .inr (.inl g))) :: wM hm d2 cA (th) z c)) H := hP
    have hD : va_D (zA s.heap.size) (wX h d cA z c ++ ((o, .inl (cL, 1, .inr (.inl g))) :: wM hm d2 cA (th) z c)) := hD
    refine lv_istore (lv' := [(5, .int 1), (4, .int (nI i)), (3, .ref o), (2, .ref hm), (1, .ref h), (0, .ref b)]) hx hb dL_law_1072 hl (by decide) rfl (fun ls hl => ?_)
    refine lv_aload_n hx hb dL_law_1074 rfl (lv_at hl 3 rfl) ?_
    refine lv_aload_n hx hb dL_law_1075 rfl (lv_at hl 5 rfl) ?_
    refine lv_iload hx hb dL_law_1076 (lv_at hl 1 rfl) ?_
    refine lv_iconst (v := 1) hx hb dL_law_1078 (by decide) ?_
    refine lv_iadd hx hb dL_law_1079 ?_
    rw [show (((nI i) + 1) : Int32) = (nI (i + 1)) from (nI_add i 1)]
    refine va_sld hx hb hX hbl hbA hS (vp_in_nI (by omega) (by omega)) dL_law_1080 ?_
    have hP : va_P D vwCl (wM hm d2 cA (th) z c ++ (wX h d cA z c ++ [(o, .inl (cL, 1, .inr (.inl g)))])) H := hP.sub [9, 10, 11, 12, 13, 14, 15, 16, 0, 1, 2, 3, 4, 5, 6, 7, 8] rfl
    have hD : va_D (zA s.heap.size) (wM hm d2 cA (th) z c ++ (wX h d cA z c ++ [(o, .inl (cL, 1, .inr (.inl g)))])) := hD.sub [9, 10, 11, 12, 13, 14, 15, 16, 0, 1, 2, 3, 4, 5, 6, 7, 8] (by decide) rfl
    refine va_calli (va_runV (As := [.int (xs (nI (i + 1)).toNatClampNeg)]) (rest := []) ⟨hx, hb, hml, hown, hts⟩ (c_X1_sung_1 l D s.heap.size cA cL (wX h d cA z c ++ [(o, .inl (cL, 1, .inr (.inl g)))]) hm d2 (th) z c (xs (nI (i + 1)).toNatClampNeg) hk) (cwV 1 hts gL_law_X1_sung rfl rfl rfl (by decide +kernel) ⟨Nat.le_of_ble_eq_true rfl, Nat.le_of_ble_eq_true rfl⟩) ⟨zPre.blind, va_recv hK hP (ci := 1) (q0 := 0) rfl rfl, zPre.call (Nat.le_refl _) hP hD hK hE hS⟩ rfl rfl hl.1 rfl (lv_room (Nat.le_of_ble_eq_true rfl)) dL_law_1081 hf1) hS (fun _ _ h9 => h9) (fun _ h9 => h9) (fun r_1081 _ t H locs ht hvm h_1081 hB hz1 hk1 hS => ?_)
    have h_1081 : r_1081 = (0) := h_1081
    subst h_1081
    obtain ⟨hP, hD⟩ := hB
    rw [ht] at hP
    have hP : va_P D vwCl (wM hm d2 cA (1) z c ++ (wX h d cA z c ++ [(o, .inl (cL, 1, .inr (.inl g)))])) H := hP
    have hD : va_D (zA s.heap.size) (wM hm d2 cA (1) z c ++ (wX h d cA z c ++ [(o, .inl (cL, 1, .inr (.inl g)))])) := hD
    refine lv_istore (lv' := [(6, .int 0), (5, .int 1), (4, .int (nI i)), (3, .ref o), (2, .ref hm), (1, .ref h), (0, .ref b)]) hx hb dL_law_1084 hl (by decide) rfl (fun ls hl => ?_)
    refine lv_aload_n hx hb dL_law_1086 rfl (lv_at hl 4 rfl) ?_
    refine vp_callSi ((va_runV (As := []) (rest := []) ⟨hx, hb, hml, hown, hts⟩ (c_X1_thrown l D s.heap.size cA cL (wX h d cA z c ++ [(o, .inl (cL, 1, .inr (.inl g)))]) hm d2 (1) z c  ) (cwV 0 hts gL_law_X1_thrown rfl rfl rfl (by decide +kernel) ⟨Nat.le_of_ble_eq_true rfl, Nat.le_of_ble_eq_true rfl⟩) ⟨zPre.blind, va_recv hK hP (ci := 1) (q0 := 0) rfl rfl, zPre.call (Nat.le_refl _) hP hD hK hE hS⟩ rfl rfl hl.1 rfl (lv_room (Nat.le_of_ble_eq_true rfl)) dL_law_1087 hf1).run) (fun r_1087 h_1087 => ?_)
    have h_1087 : r_1087 = 1 := h_1087
    subst h_1087
    refine lv_iload hx hb dL_law_1090 (lv_at hl 1 rfl) ?_
    refine lv_icmp_eq (tgt := 1097) hx hb dL_law_1092 (by decide) (fun _ => ?_) (fun c_1092 => absurd c_1092 (by decide))
    refine lv_iload hx hb dL_law_1097 (lv_at hl 1 rfl) ?_
    refine lv_if_ne (tgt := 1114) hx hb dL_law_1099 (by decide) (fun _ => ?_) (fun c_1099 => absurd c_1099 (by decide))
    refine lv_goto (tgt := 1254) hx hb dL_law_1114 (by decide) ?_
    have hP : va_P D vwCl (wX h d cA z c ++ ((o, .inl (cL, 1, .inr (.inl g))) :: wM hm d2 cA (1) z c)) H := hP.sub [8, 9, 10, 11, 12, 13, 14, 15, 16, 0, 1, 2, 3, 4, 5, 6, 7] rfl
    have hD : va_D (zA s.heap.size) (wX h d cA z c ++ ((o, .inl (cL, 1, .inr (.inl g))) :: wM hm d2 cA (1) z c)) := hD.sub [8, 9, 10, 11, 12, 13, 14, 15, 16, 0, 1, 2, 3, 4, 5, 6, 7] (by decide) rfl
    refine W.widen (k := cells + 1) (n := slots + 6) (by omega) (by omega) ?_
    exact kk z c (1) g hc hz _ _ hP hD hS ls (lv_sub hl [2, 3, 4, 5, 6] rfl)

set_option maxHeartbeats 8000000 in
set_option maxRecDepth 100000 in
theorem law_17 {p : Program} {l : Launch} {e : Env} {s : State} {m : MethodId} {below : List Frame} {meth : Method} {cd : Code} {b L : Nat} {xs : Nat → Int32} {D : va_G} {cA cL : ClassId} (C9 : zC9 p l s m meth cd b L xs D cA cL) {h hm o : Nat} {d d2 : Nat → Nat} {z : S7} {c : C5} {th : Int32} {g : Nat → Int64} (hc : okC c) (hz : okZ z) {i : Nat} (hi : i + 5 ≤ L) {cells slots : Nat} (hce : cells + 1 ≤ 1045) (hsl : slots + 6 ≤ 8314) (kk : zKK p l e s m below meth cd b D cA cL h hm o d d2 i cells slots) {H : Heap} {locs : List Loc} (hP : va_P D vwCl (zLW h d hm d2 o cA cL z c th g) H) (hD : va_D (zA s.heap.size) (zLW h d hm d2 o cA cL z c th g)) (hS : va_S (zA s.heap.size) s.heap H locs) {ls : Array Slot} (hl : lv_has ls 7 [(4, .int (nI i)), (3, .ref o), (2, .ref hm), (1, .ref h), (0, .ref b)]) : W p l e room_1 s m #[Value.ref b] below meth cd H locs cells slots (lw_Z below #[Value.ref b] s) (F0 m 1117 ls []) := by
  obtain ⟨hst, hx, hb, hml, hown, hts, hX, hbl, hK, hE, hL⟩ := C9
  have hbA : ¬ zA s.heap.size b := Nat.not_le.mpr hbl
  have hf0 : cells + 0 ≤ room_1.cells ∧ slots + 0 ≤ room_1.slots := ⟨by show cells + 0 ≤ 1045; omega, by show slots + 0 ≤ 8314; omega⟩
  have hf1 : cells + 1 ≤ room_1.cells ∧ slots + 6 ≤ room_1.slots := ⟨hce, hsl⟩
  by_cases hn : 0 ≤ (xs (nI (i + 1)).toNatClampNeg) ∧ (xs (nI (i + 1)).toNatClampNeg) ≤ 7
  · obtain ⟨k1, hk1, e1⟩ := nI_of2 (n := 7) (M := 7) rfl (Int32.not_lt.mpr (hn).1) (hn).2
    refine lv_aload_n hx hb dL_law_1117 rfl (lv_at hl 3 rfl) ?_
    refine lv_aload_n hx hb dL_law_1118 rfl (lv_at hl 4 rfl) ?_
    refine lv_iload hx hb dL_law_1119 (lv_at hl 0 rfl) ?_
    refine lv_iconst (v := 1) hx hb dL_law_1121 (by decide) ?_
    refine lv_iadd hx hb dL_law_1122 ?_
    rw [show (((nI i) + 1) : Int32) = (nI (i + 1)) from (nI_add i 1)]
    refine va_sld hx hb hX hbl hbA hS (vp_in_nI (by omega) (by omega)) dL_law_1123 ?_
    rw [show ((xs (nI (i + 1)).toNatClampNeg) : Int32) = (nI k1) from e1]
    refine lv_aload_n hx hb dL_law_1124 rfl (lv_at hl 1 rfl) ?_
    refine va_calli (vx_runSW (As := [.ref h, .int (nI k1), .ref o]) (rest := []) ⟨hx, hb, hml, hown, hts⟩ (c_L_bestKey_v l D s.heap.size cA cL (wM hm d2 cA (th) z c) h d z c o g k1 (by omega)) (vx_cwSW 3 hts gL_law_L_bestKey rfl rfl rfl (by decide +kernel) ⟨Nat.le_of_ble_eq_true rfl, Nat.le_of_ble_eq_true rfl⟩) ⟨zPre.blind, zPre.call (Nat.le_refl _) hP hD hK hE hS⟩ rfl rfl hl.1 rfl (lv_room (Nat.le_of_ble_eq_true rfl)) dL_law_1125 hf0) hS (fun _ _ h9 => h9) (fun _ h9 => h9) (fun r_1125 _ t H locs ht hvm h_1125 hB hz1 hk1 hS => ?_)
    have h_1125 : r_1125 = 0 := h_1125
    subst h_1125
    obtain ⟨hP, hD⟩ := hB
    rw [ht] at hP
    have hP : va_P D vwCl (wX h d cA z c ++ ((o, .inl (cL, 1, .inr (.inl (vp_updL g (0 : Int32).toNatClampNeg (nI (zBk k1 z.2.2.2.2.2.2)).toInt64)))) :: wM hm d2 cA (th) z c)) H := hP
    have hD : va_D (zA s.heap.size) (wX h d cA z c ++ ((o, .inl (cL, 1, .inr (.inl (vp_updL g (0 : Int32).toNatClampNeg (nI (zBk k1 z.2.2.2.2.2.2)).toInt64)))) :: wM hm d2 cA (th) z c)) := hD
    refine lv_istore (lv' := [(5, .int 0), (4, .int (nI i)), (3, .ref o), (2, .ref hm), (1, .ref h), (0, .ref b)]) hx hb dL_law_1128 hl (by decide) rfl (fun ls hl => ?_)
    refine lv_aload_n hx hb dL_law_1130 rfl (lv_at hl 3 rfl) ?_
    refine lv_aload_n hx hb dL_law_1131 rfl (lv_at hl 5 rfl) ?_
    refine lv_iload hx hb dL_law_1132 (lv_at hl 1 rfl) ?_
    refine lv_iconst (v := 1) hx hb dL_law_1134 (by decide) ?_
    refine lv_iadd hx hb dL_law_1135 ?_
    rw [show (((nI i) + 1) : Int32) = (nI (i + 1)) from (nI_add i 1)]
    refine va_sld hx hb hX hbl hbA hS (vp_in_nI (by omega) (by omega)) dL_law_1136 ?_
    rw [show ((xs (nI (i + 1)).toNatClampNeg) : Int32) = (nI k1) from e1]
    have hP : va_P D vwCl (wM hm d2 cA (th) z c ++ (wX h d cA z c ++ [(o, .inl (cL, 1, .inr (.inl (vp_updL g (0 : Int32).toNatClampNeg (nI (zBk k1 z.2.2.2.2.2.2)).toInt64))))])) H := hP.sub [9, 10, 11, 12, 13, 14, 15, 16, 0, 1, 2, 3, 4, 5, 6, 7, 8] rfl
    have hD : va_D (zA s.heap.size) (wM hm d2 cA (th) z c ++ (wX h d cA z c ++ [(o, .inl (cL, 1, .inr (.inl (vp_updL g (0 : Int32).toNatClampNeg (nI (zBk k1 z.2.2.2.2.2.2)).toInt64))))])) := hD.sub [9, 10, 11, 12, 13, 14, 15, 16, 0, 1, 2, 3, 4, 5, 6, 7, 8] (by decide) rfl
    refine va_calli (va_runV (As := [.int (nI k1)]) (rest := []) ⟨hx, hb, hml, hown, hts⟩ (c_X1_bestKey_v l D s.heap.size cA cL (wX h d cA z c ++ [(o, .inl (cL, 1, .inr (.inl (vp_updL g (0 : Int32).toNatClampNeg (nI (zBk k1 z.2.2.2.2.2.2)).toInt64))))]) hm d2 (th) z c k1 (by omega)) (cwV 1 hts gL_law_X1_bestKey rfl rfl rfl (by decide +kernel) ⟨Nat.le_of_ble_eq_true rfl, Nat.le_of_ble_eq_true rfl⟩) ⟨zPre.blind, va_recv hK hP (ci := 1) (q0 := 0) rfl rfl, zPre.call (Nat.le_refl _) hP hD hK hE hS⟩ rfl rfl hl.1 rfl (lv_room (Nat.le_of_ble_eq_true rfl)) dL_law_1137 hf0) hS (fun _ _ h9 => h9) (fun _ h9 => h9) (fun r_1137 _ t H locs ht hvm h_1137 hB hz1 hk1 hS => ?_)
    have h_1137 : r_1137 = (nI (zBk k1 z.2.2.2.2.2.2)) := h_1137
    subst h_1137
    obtain ⟨hP, hD⟩ := hB
    rw [ht] at hP
    have hP : va_P D vwCl (wM hm d2 cA (0) z c ++ (wX h d cA z c ++ [(o, .inl (cL, 1, .inr (.inl (vp_updL g (0 : Int32).toNatClampNeg (nI (zBk k1 z.2.2.2.2.2.2)).toInt64))))])) H := hP
    have hD : va_D (zA s.heap.size) (wM hm d2 cA (0) z c ++ (wX h d cA z c ++ [(o, .inl (cL, 1, .inr (.inl (vp_updL g (0 : Int32).toNatClampNeg (nI (zBk k1 z.2.2.2.2.2.2)).toInt64))))])) := hD
    refine lv_istore (lv' := [(6, .int (nI (zBk k1 z.2.2.2.2.2.2))), (5, .int 0), (4, .int (nI i)), (3, .ref o), (2, .ref hm), (1, .ref h), (0, .ref b)]) hx hb dL_law_1140 hl (by decide) rfl (fun ls hl => ?_)
    refine lv_aload_n hx hb dL_law_1142 rfl (lv_at hl 4 rfl) ?_
    refine vp_callSi ((va_runV (As := []) (rest := []) ⟨hx, hb, hml, hown, hts⟩ (c_X1_thrown l D s.heap.size cA cL (wX h d cA z c ++ [(o, .inl (cL, 1, .inr (.inl (vp_updL g (0 : Int32).toNatClampNeg (nI (zBk k1 z.2.2.2.2.2.2)).toInt64))))]) hm d2 (0) z c  ) (cwV 0 hts gL_law_X1_thrown rfl rfl rfl (by decide +kernel) ⟨Nat.le_of_ble_eq_true rfl, Nat.le_of_ble_eq_true rfl⟩) ⟨zPre.blind, va_recv hK hP (ci := 1) (q0 := 0) rfl rfl, zPre.call (Nat.le_refl _) hP hD hK hE hS⟩ rfl rfl hl.1 rfl (lv_room (Nat.le_of_ble_eq_true rfl)) dL_law_1143 hf0).run) (fun r_1143 h_1143 => ?_)
    have h_1143 : r_1143 = 0 := h_1143
    subst h_1143
    refine lv_iload hx hb dL_law_1146 (lv_at hl 1 rfl) ?_
    refine lv_icmp_eq (tgt := 1153) hx hb dL_law_1148 (by decide) (fun _ => ?_) (fun c_1148 => absurd c_1148 (by decide))
    refine lv_iload hx hb dL_law_1153 (lv_at hl 1 rfl) ?_
    refine lv_if_ne (tgt := 1170) hx hb dL_law_1155 (by decide) (fun c_1155 => absurd c_1155 (by decide)) (fun _ => ?_)
    refine lv_aload_n hx hb dL_law_1158 rfl (lv_at hl 3 rfl) ?_
    refine lv_iconst (v := 0) hx hb dL_law_1159 (by decide) ?_
    have hP : va_P D vwCl (wX h d cA z c ++ ((o, .inl (cL, 1, .inr (.inl (vp_updL g (0 : Int32).toNatClampNeg (nI (zBk k1 z.2.2.2.2.2.2)).toInt64)))) :: wM hm d2 cA (0) z c)) H := hP.sub [8, 9, 10, 11, 12, 13, 14, 15, 16, 0, 1, 2, 3, 4, 5, 6, 7] rfl
    have hD : va_D (zA s.heap.size) (wX h d cA z c ++ ((o, .inl (cL, 1, .inr (.inl (vp_updL g (0 : Int32).toNatClampNeg (nI (zBk k1 z.2.2.2.2.2.2)).toInt64)))) :: wM hm d2 cA (0) z c)) := hD.sub [8, 9, 10, 11, 12, 13, 14, 15, 16, 0, 1, 2, 3, 4, 5, 6, 7] (by decide) rfl
    refine va_lald hx hb hK hP 8 1 rfl rfl (vp_in_nI (n := 0) (by decide) (by decide)) dL_law_1160 ?_
    rw [show ((vp_updL g (0 : Int32).toNatClampNeg (nI (zBk k1 z.2.2.2.2.2.2)).toInt64) (0 : Int32).toNatClampNeg : Int64) = (nI (zBk k1 z.2.2.2.2.2.2)).toInt64 from pk_uLs]
    refine lv_iload hx hb dL_law_1161 (lv_at hl 0 rfl) ?_
    refine lv_i2l hx hb dL_law_1163 rfl ?_
    refine W.lcmp hx hb dL_law_1164 ?_
    rw [show lg_cmp ((nI (zBk k1 z.2.2.2.2.2.2)).toInt64) ((nI (zBk k1 z.2.2.2.2.2.2)).toInt64) = 0 from zcmp _]
    refine lv_if_eq (tgt := 1170) hx hb dL_law_1165 (by decide) (fun _ => ?_) (fun c_1165 => absurd c_1165 (by decide))
    refine lv_goto (tgt := 1254) hx hb dL_law_1170 (by decide) ?_
    refine W.widen (k := cells + 1) (n := slots + 6) (by omega) (by omega) ?_
    exact kk z c (0) (vp_updL g (0 : Int32).toNatClampNeg (nI (zBk k1 z.2.2.2.2.2.2)).toInt64) hc hz _ _ hP hD hS ls (lv_sub hl [2, 3, 4, 5, 6] rfl)
  · refine lv_aload_n hx hb dL_law_1117 rfl (lv_at hl 3 rfl) ?_
    refine lv_aload_n hx hb dL_law_1118 rfl (lv_at hl 4 rfl) ?_
    refine lv_iload hx hb dL_law_1119 (lv_at hl 0 rfl) ?_
    refine lv_iconst (v := 1) hx hb dL_law_1121 (by decide) ?_
    refine lv_iadd hx hb dL_law_1122 ?_
    rw [show (((nI i) + 1) : Int32) = (nI (i + 1)) from (nI_add i 1)]
    refine va_sld hx hb hX hbl hbA hS (vp_in_nI (by omega) (by omega)) dL_law_1123 ?_
    refine lv_aload_n hx hb dL_law_1124 rfl (lv_at hl 1 rfl) ?_
    refine va_calli (vx_runSW (As := [.ref h, .int (xs (nI (i + 1)).toNatClampNeg), .ref o]) (rest := []) ⟨hx, hb, hml, hown, hts⟩ (c_L_bestKey_1 l hst D s.heap.size cA cL (wM hm d2 cA (th) z c) h d z c o g (xs (nI (i + 1)).toNatClampNeg) hn) (vx_cwSW 3 hts gL_law_L_bestKey rfl rfl rfl (by decide +kernel) ⟨Nat.le_of_ble_eq_true rfl, Nat.le_of_ble_eq_true rfl⟩) ⟨zPre.blind, zPre.call (Nat.le_refl _) hP hD hK hE hS⟩ rfl rfl hl.1 rfl (lv_room (Nat.le_of_ble_eq_true rfl)) dL_law_1125 hf1) hS (fun _ _ h9 => h9) (fun _ h9 => h9) (fun r_1125 _ t H locs ht hvm h_1125 hB hz1 hk1 hS => ?_)
    have h_1125 : r_1125 = 1 := h_1125
    subst h_1125
    obtain ⟨hP, hD⟩ := hB
    rw [ht] at hP
    have hP : va_P D vwCl (wX h d cA z c ++ ((o, .inl (cL, 1, .inr (.inl g))) :: wM hm d2 cA (th) z c)) H := hP
    have hD : va_D (zA s.heap.size) (wX h d cA z c ++ ((o, .inl (cL, 1, .inr (.inl g))) :: wM hm d2 cA (th) z c)) := hD
    refine lv_istore (lv' := [(5, .int 1), (4, .int (nI i)), (3, .ref o), (2, .ref hm), (1, .ref h), (0, .ref b)]) hx hb dL_law_1128 hl (by decide) rfl (fun ls hl => ?_)
    refine lv_aload_n hx hb dL_law_1130 rfl (lv_at hl 3 rfl) ?_
    refine lv_aload_n hx hb dL_law_1131 rfl (lv_at hl 5 rfl) ?_
    refine lv_iload hx hb dL_law_1132 (lv_at hl 1 rfl) ?_
    refine lv_iconst (v := 1) hx hb dL_law_1134 (by decide) ?_
    refine lv_iadd hx hb dL_law_1135 ?_
    rw [show (((nI i) + 1) : Int32) = (nI (i + 1)) from (nI_add i 1)]
    refine va_sld hx hb hX hbl hbA hS (vp_in_nI (by omega) (by omega)) dL_law_1136 ?_
    have hP : va_P D vwCl (wM hm d2 cA (th) z c ++ (wX h d cA z c ++ [(o, .inl (cL, 1, .inr (.inl g)))])) H := hP.sub [9, 10, 11, 12, 13, 14, 15, 16, 0, 1, 2, 3, 4, 5, 6, 7, 8] rfl
    have hD : va_D (zA s.heap.size) (wM hm d2 cA (th) z c ++ (wX h d cA z c ++ [(o, .inl (cL, 1, .inr (.inl g)))])) := hD.sub [9, 10, 11, 12, 13, 14, 15, 16, 0, 1, 2, 3, 4, 5, 6, 7, 8] (by decide) rfl
    refine va_calli (va_runV (As := [.int (xs (nI (i + 1)).toNatClampNeg)]) (rest := []) ⟨hx, hb, hml, hown, hts⟩ (c_X1_bestKey_1 l D s.heap.size cA cL (wX h d cA z c ++ [(o, .inl (cL, 1, .inr (.inl g)))]) hm d2 (th) z c (xs (nI (i + 1)).toNatClampNeg) hn) (cwV 1 hts gL_law_X1_bestKey rfl rfl rfl (by decide +kernel) ⟨Nat.le_of_ble_eq_true rfl, Nat.le_of_ble_eq_true rfl⟩) ⟨zPre.blind, va_recv hK hP (ci := 1) (q0 := 0) rfl rfl, zPre.call (Nat.le_refl _) hP hD hK hE hS⟩ rfl rfl hl.1 rfl (lv_room (Nat.le_of_ble_eq_true rfl)) dL_law_1137 hf1) hS (fun _ _ h9 => h9) (fun _ h9 => h9) (fun r_1137 _ t H locs ht hvm h_1137 hB hz1 hk1 hS => ?_)
    have h_1137 : r_1137 = (0) := h_1137
    subst h_1137
    obtain ⟨hP, hD⟩ := hB
    rw [ht] at hP
    have hP : va_P D vwCl (wM hm d2 cA (1) z c ++ (wX h d cA z c ++ [(o, .inl (cL, 1, .inr (.inl g)))])) H := hP
    have hD : va_D (zA s.heap.size) (wM hm d2 cA (1) z c ++ (wX h d cA z c ++ [(o, .inl (cL, 1, .inr (.inl g)))])) := hD
    refine lv_istore (lv' := [(6, .int 0), (5, .int 1), (4, .int (nI i)), (3, .ref o), (2, .ref hm), (1, .ref h), (0, .ref b)]) hx hb dL_law_1140 hl (by decide) rfl (fun ls hl => ?_)
    refine lv_aload_n hx hb dL_law_1142 rfl (lv_at hl 4 rfl) ?_
    refine vp_callSi ((va_runV (As := []) (rest := []) ⟨hx, hb, hml, hown, hts⟩ (c_X1_thrown l D s.heap.size cA cL (wX h d cA z c ++ [(o, .inl (cL, 1, .inr (.inl g)))]) hm d2 (1) z c  ) (cwV 0 hts gL_law_X1_thrown rfl rfl rfl (by decide +kernel) ⟨Nat.le_of_ble_eq_true rfl, Nat.le_of_ble_eq_true rfl⟩) ⟨zPre.blind, va_recv hK hP (ci := 1) (q0 := 0) rfl rfl, zPre.call (Nat.le_refl _) hP hD hK hE hS⟩ rfl rfl hl.1 rfl (lv_room (Nat.le_of_ble_eq_true rfl)) dL_law_1143 hf1).run) (fun r_1143 h_1143 => ?_)
    have h_1143 : r_1143 = 1 := h_1143
    subst h_1143
    refine lv_iload hx hb dL_law_1146 (lv_at hl 1 rfl) ?_
    refine lv_icmp_eq (tgt := 1153) hx hb dL_law_1148 (by decide) (fun _ => ?_) (fun c_1148 => absurd c_1148 (by decide))
    refine lv_iload hx hb dL_law_1153 (lv_at hl 1 rfl) ?_
    refine lv_if_ne (tgt := 1170) hx hb dL_law_1155 (by decide) (fun _ => ?_) (fun c_1155 => absurd c_1155 (by decide))
    refine lv_goto (tgt := 1254) hx hb dL_law_1170 (by decide) ?_
    have hP : va_P D vwCl (wX h d cA z c ++ ((o, .inl (cL, 1, .inr (.inl g))) :: wM hm d2 cA (1) z c)) H := hP.sub [8, 9, 10, 11, 12, 13, 14, 15, 16, 0, 1, 2, 3, 4, 5, 6, 7] rfl
    have hD : va_D (zA s.heap.size) (wX h d cA z c ++ ((o, .inl (cL, 1, .inr (.inl g))) :: wM hm d2 cA (1) z c)) := hD.sub [8, 9, 10, 11, 12, 13, 14, 15, 16, 0, 1, 2, 3, 4, 5, 6, 7] (by decide) rfl
    refine W.widen (k := cells + 1) (n := slots + 6) (by omega) (by omega) ?_
    exact kk z c (1) g hc hz _ _ hP hD hS ls (lv_sub hl [2, 3, 4, 5, 6] rfl)

set_option maxHeartbeats 8000000 in
set_option maxRecDepth 100000 in
theorem law_18 {p : Program} {l : Launch} {e : Env} {s : State} {m : MethodId} {below : List Frame} {meth : Method} {cd : Code} {b L : Nat} {xs : Nat → Int32} {D : va_G} {cA cL : ClassId} (C9 : zC9 p l s m meth cd b L xs D cA cL) {h hm o : Nat} {d d2 : Nat → Nat} {z : S7} {c : C5} {th : Int32} {g : Nat → Int64} (hc : okC c) (hz : okZ z) {i : Nat} (hi : i + 5 ≤ L) {cells slots : Nat} (hce : cells + 1 ≤ 1045) (hsl : slots + 6 ≤ 8314) (kk : zKK p l e s m below meth cd b D cA cL h hm o d d2 i cells slots) {H : Heap} {locs : List Loc} (hP : va_P D vwCl (zLW h d hm d2 o cA cL z c th g) H) (hD : va_D (zA s.heap.size) (zLW h d hm d2 o cA cL z c th g)) (hS : va_S (zA s.heap.size) s.heap H locs) {ls : Array Slot} (hl : lv_has ls 7 [(4, .int (nI i)), (3, .ref o), (2, .ref hm), (1, .ref h), (0, .ref b)]) : W p l e room_1 s m #[Value.ref b] below meth cd H locs cells slots (lw_Z below #[Value.ref b] s) (F0 m 1173 ls []) := by
  obtain ⟨hst, hx, hb, hml, hown, hts, hX, hbl, hK, hE, hL⟩ := C9
  have hbA : ¬ zA s.heap.size b := Nat.not_le.mpr hbl
  have hf0 : cells + 0 ≤ room_1.cells ∧ slots + 0 ≤ room_1.slots := ⟨by show cells + 0 ≤ 1045; omega, by show slots + 0 ≤ 8314; omega⟩
  have hf1 : cells + 1 ≤ room_1.cells ∧ slots + 6 ≤ room_1.slots := ⟨hce, hsl⟩
  by_cases hn : (0 ≤ (xs (nI (i + 1)).toNatClampNeg) ∧ (xs (nI (i + 1)).toNatClampNeg) ≤ 11) ∧ (0 ≤ (xs (nI (i + 2)).toNatClampNeg) ∧ (xs (nI (i + 2)).toNatClampNeg) ≤ 7)
  · obtain ⟨k1, hk1, e1⟩ := nI_of2 (n := 11) (M := 11) rfl (Int32.not_lt.mpr (hn.1).1) (hn.1).2
    obtain ⟨k2, hk2, e2⟩ := nI_of2 (n := 7) (M := 7) rfl (Int32.not_lt.mpr (hn.2).1) (hn.2).2
    refine lv_aload_n hx hb dL_law_1173 rfl (lv_at hl 3 rfl) ?_
    refine lv_aload_n hx hb dL_law_1174 rfl (lv_at hl 4 rfl) ?_
    refine lv_iload hx hb dL_law_1175 (lv_at hl 0 rfl) ?_
    refine lv_iconst (v := 1) hx hb dL_law_1177 (by decide) ?_
    refine lv_iadd hx hb dL_law_1178 ?_
    rw [show (((nI i) + 1) : Int32) = (nI (i + 1)) from (nI_add i 1)]
    refine va_sld hx hb hX hbl hbA hS (vp_in_nI (by omega) (by omega)) dL_law_1179 ?_
    rw [show ((xs (nI (i + 1)).toNatClampNeg) : Int32) = (nI k1) from e1]
    refine lv_aload_n hx hb dL_law_1180 rfl (lv_at hl 4 rfl) ?_
    refine lv_iload hx hb dL_law_1181 (lv_at hl 0 rfl) ?_
    refine lv_iconst (v := 2) hx hb dL_law_1183 (by decide) ?_
    refine lv_iadd hx hb dL_law_1184 ?_
    rw [show (((nI i) + 2) : Int32) = (nI (i + 2)) from (nI_add i 2)]
    refine va_sld hx hb hX hbl hbA hS (vp_in_nI (by omega) (by omega)) dL_law_1185 ?_
    rw [show ((xs (nI (i + 2)).toNatClampNeg) : Int32) = (nI k2) from e2]
    refine lv_aload_n hx hb dL_law_1186 rfl (lv_at hl 1 rfl) ?_
    refine va_calli (vx_runSW (As := [.ref h, .int (nI k1), .int (nI k2), .ref o]) (rest := []) ⟨hx, hb, hml, hown, hts⟩ (c_L_within_v l D s.heap.size cA cL (wM hm d2 cA (th) z c) h d z c o g k1 k2 (by omega) (by omega)) (vx_cwSW 4 hts gL_law_L_within rfl rfl rfl (by decide +kernel) ⟨Nat.le_of_ble_eq_true rfl, Nat.le_of_ble_eq_true rfl⟩) ⟨zPre.blind, zPre.call (Nat.le_refl _) hP hD hK hE hS⟩ rfl rfl hl.1 rfl (lv_room (Nat.le_of_ble_eq_true rfl)) dL_law_1187 hf0) hS (fun _ _ h9 => h9) (fun _ h9 => h9) (fun r_1187 _ t H locs ht hvm h_1187 hB hz1 hk1 hS => ?_)
    have h_1187 : r_1187 = 0 := h_1187
    subst h_1187
    obtain ⟨hP, hD⟩ := hB
    rw [ht] at hP
    have hP : va_P D vwCl (wX h d cA z c ++ ((o, .inl (cL, 1, .inr (.inl (vp_updL g (0 : Int32).toNatClampNeg (zW k2 k1 z.2.2.2.2.2.2).toInt64)))) :: wM hm d2 cA (th) z c)) H := hP
    have hD : va_D (zA s.heap.size) (wX h d cA z c ++ ((o, .inl (cL, 1, .inr (.inl (vp_updL g (0 : Int32).toNatClampNeg (zW k2 k1 z.2.2.2.2.2.2).toInt64)))) :: wM hm d2 cA (th) z c)) := hD
    refine lv_istore (lv' := [(5, .int 0), (4, .int (nI i)), (3, .ref o), (2, .ref hm), (1, .ref h), (0, .ref b)]) hx hb dL_law_1190 hl (by decide) rfl (fun ls hl => ?_)
    refine lv_aload_n hx hb dL_law_1192 rfl (lv_at hl 3 rfl) ?_
    refine lv_aload_n hx hb dL_law_1193 rfl (lv_at hl 5 rfl) ?_
    refine lv_iload hx hb dL_law_1194 (lv_at hl 1 rfl) ?_
    refine lv_iconst (v := 1) hx hb dL_law_1196 (by decide) ?_
    refine lv_iadd hx hb dL_law_1197 ?_
    rw [show (((nI i) + 1) : Int32) = (nI (i + 1)) from (nI_add i 1)]
    refine va_sld hx hb hX hbl hbA hS (vp_in_nI (by omega) (by omega)) dL_law_1198 ?_
    rw [show ((xs (nI (i + 1)).toNatClampNeg) : Int32) = (nI k1) from e1]
    refine lv_aload_n hx hb dL_law_1199 rfl (lv_at hl 5 rfl) ?_
    refine lv_iload hx hb dL_law_1200 (lv_at hl 1 rfl) ?_
    refine lv_iconst (v := 2) hx hb dL_law_1202 (by decide) ?_
    refine lv_iadd hx hb dL_law_1203 ?_
    rw [show (((nI i) + 2) : Int32) = (nI (i + 2)) from (nI_add i 2)]
    refine va_sld hx hb hX hbl hbA hS (vp_in_nI (by omega) (by omega)) dL_law_1204 ?_
    rw [show ((xs (nI (i + 2)).toNatClampNeg) : Int32) = (nI k2) from e2]
    have hP : va_P D vwCl (wM hm d2 cA (th) z c ++ (wX h d cA z c ++ [(o, .inl (cL, 1, .inr (.inl (vp_updL g (0 : Int32).toNatClampNeg (zW k2 k1 z.2.2.2.2.2.2).toInt64))))])) H := hP.sub [9, 10, 11, 12, 13, 14, 15, 16, 0, 1, 2, 3, 4, 5, 6, 7, 8] rfl
    have hD : va_D (zA s.heap.size) (wM hm d2 cA (th) z c ++ (wX h d cA z c ++ [(o, .inl (cL, 1, .inr (.inl (vp_updL g (0 : Int32).toNatClampNeg (zW k2 k1 z.2.2.2.2.2.2).toInt64))))])) := hD.sub [9, 10, 11, 12, 13, 14, 15, 16, 0, 1, 2, 3, 4, 5, 6, 7, 8] (by decide) rfl
    refine va_calli (va_runV (As := [.int (nI k1), .int (nI k2)]) (rest := []) ⟨hx, hb, hml, hown, hts⟩ (c_X1_within_v l D s.heap.size cA cL (wX h d cA z c ++ [(o, .inl (cL, 1, .inr (.inl (vp_updL g (0 : Int32).toNatClampNeg (zW k2 k1 z.2.2.2.2.2.2).toInt64))))]) hm d2 (th) z c k1 k2 (by omega) (by omega)) (cwV 2 hts gL_law_X1_within rfl rfl rfl (by decide +kernel) ⟨Nat.le_of_ble_eq_true rfl, Nat.le_of_ble_eq_true rfl⟩) ⟨zPre.blind, va_recv hK hP (ci := 1) (q0 := 0) rfl rfl, zPre.call (Nat.le_refl _) hP hD hK hE hS⟩ rfl rfl hl.1 rfl (lv_room (Nat.le_of_ble_eq_true rfl)) dL_law_1205 hf0) hS (fun _ _ h9 => h9) (fun _ h9 => h9) (fun r_1205 _ t H locs ht hvm h_1205 hB hz1 hk1 hS => ?_)
    have h_1205 : r_1205 = (zW k2 k1 z.2.2.2.2.2.2) := h_1205
    subst h_1205
    obtain ⟨hP, hD⟩ := hB
    rw [ht] at hP
    have hP : va_P D vwCl (wM hm d2 cA (0) z c ++ (wX h d cA z c ++ [(o, .inl (cL, 1, .inr (.inl (vp_updL g (0 : Int32).toNatClampNeg (zW k2 k1 z.2.2.2.2.2.2).toInt64))))])) H := hP
    have hD : va_D (zA s.heap.size) (wM hm d2 cA (0) z c ++ (wX h d cA z c ++ [(o, .inl (cL, 1, .inr (.inl (vp_updL g (0 : Int32).toNatClampNeg (zW k2 k1 z.2.2.2.2.2.2).toInt64))))])) := hD
    refine lv_istore (lv' := [(6, .int (zW k2 k1 z.2.2.2.2.2.2)), (5, .int 0), (4, .int (nI i)), (3, .ref o), (2, .ref hm), (1, .ref h), (0, .ref b)]) hx hb dL_law_1208 hl (by decide) rfl (fun ls hl => ?_)
    refine lv_aload_n hx hb dL_law_1210 rfl (lv_at hl 4 rfl) ?_
    refine vp_callSi ((va_runV (As := []) (rest := []) ⟨hx, hb, hml, hown, hts⟩ (c_X1_thrown l D s.heap.size cA cL (wX h d cA z c ++ [(o, .inl (cL, 1, .inr (.inl (vp_updL g (0 : Int32).toNatClampNeg (zW k2 k1 z.2.2.2.2.2.2).toInt64))))]) hm d2 (0) z c  ) (cwV 0 hts gL_law_X1_thrown rfl rfl rfl (by decide +kernel) ⟨Nat.le_of_ble_eq_true rfl, Nat.le_of_ble_eq_true rfl⟩) ⟨zPre.blind, va_recv hK hP (ci := 1) (q0 := 0) rfl rfl, zPre.call (Nat.le_refl _) hP hD hK hE hS⟩ rfl rfl hl.1 rfl (lv_room (Nat.le_of_ble_eq_true rfl)) dL_law_1211 hf0).run) (fun r_1211 h_1211 => ?_)
    have h_1211 : r_1211 = 0 := h_1211
    subst h_1211
    refine lv_iload hx hb dL_law_1214 (lv_at hl 1 rfl) ?_
    refine lv_icmp_eq (tgt := 1221) hx hb dL_law_1216 (by decide) (fun _ => ?_) (fun c_1216 => absurd c_1216 (by decide))
    refine lv_iload hx hb dL_law_1221 (lv_at hl 1 rfl) ?_
    refine lv_if_ne (tgt := 1238) hx hb dL_law_1223 (by decide) (fun c_1223 => absurd c_1223 (by decide)) (fun _ => ?_)
    refine lv_aload_n hx hb dL_law_1226 rfl (lv_at hl 3 rfl) ?_
    refine lv_iconst (v := 0) hx hb dL_law_1227 (by decide) ?_
    have hP : va_P D vwCl (wX h d cA z c ++ ((o, .inl (cL, 1, .inr (.inl (vp_updL g (0 : Int32).toNatClampNeg (zW k2 k1 z.2.2.2.2.2.2).toInt64)))) :: wM hm d2 cA (0) z c)) H := hP.sub [8, 9, 10, 11, 12, 13, 14, 15, 16, 0, 1, 2, 3, 4, 5, 6, 7] rfl
    have hD : va_D (zA s.heap.size) (wX h d cA z c ++ ((o, .inl (cL, 1, .inr (.inl (vp_updL g (0 : Int32).toNatClampNeg (zW k2 k1 z.2.2.2.2.2.2).toInt64)))) :: wM hm d2 cA (0) z c)) := hD.sub [8, 9, 10, 11, 12, 13, 14, 15, 16, 0, 1, 2, 3, 4, 5, 6, 7] (by decide) rfl
    refine va_lald hx hb hK hP 8 1 rfl rfl (vp_in_nI (n := 0) (by decide) (by decide)) dL_law_1228 ?_
    rw [show ((vp_updL g (0 : Int32).toNatClampNeg (zW k2 k1 z.2.2.2.2.2.2).toInt64) (0 : Int32).toNatClampNeg : Int64) = (zW k2 k1 z.2.2.2.2.2.2).toInt64 from pk_uLs]
    refine lv_iload hx hb dL_law_1229 (lv_at hl 0 rfl) ?_
    refine lv_i2l hx hb dL_law_1231 rfl ?_
    refine W.lcmp hx hb dL_law_1232 ?_
    rw [show lg_cmp ((zW k2 k1 z.2.2.2.2.2.2).toInt64) ((zW k2 k1 z.2.2.2.2.2.2).toInt64) = 0 from zcmp _]
    refine lv_if_eq (tgt := 1238) hx hb dL_law_1233 (by decide) (fun _ => ?_) (fun c_1233 => absurd c_1233 (by decide))
    refine lv_goto (tgt := 1254) hx hb dL_law_1238 (by decide) ?_
    refine W.widen (k := cells + 1) (n := slots + 6) (by omega) (by omega) ?_
    exact kk z c (0) (vp_updL g (0 : Int32).toNatClampNeg (zW k2 k1 z.2.2.2.2.2.2).toInt64) hc hz _ _ hP hD hS ls (lv_sub hl [2, 3, 4, 5, 6] rfl)
  · refine lv_aload_n hx hb dL_law_1173 rfl (lv_at hl 3 rfl) ?_
    refine lv_aload_n hx hb dL_law_1174 rfl (lv_at hl 4 rfl) ?_
    refine lv_iload hx hb dL_law_1175 (lv_at hl 0 rfl) ?_
    refine lv_iconst (v := 1) hx hb dL_law_1177 (by decide) ?_
    refine lv_iadd hx hb dL_law_1178 ?_
    rw [show (((nI i) + 1) : Int32) = (nI (i + 1)) from (nI_add i 1)]
    refine va_sld hx hb hX hbl hbA hS (vp_in_nI (by omega) (by omega)) dL_law_1179 ?_
    refine lv_aload_n hx hb dL_law_1180 rfl (lv_at hl 4 rfl) ?_
    refine lv_iload hx hb dL_law_1181 (lv_at hl 0 rfl) ?_
    refine lv_iconst (v := 2) hx hb dL_law_1183 (by decide) ?_
    refine lv_iadd hx hb dL_law_1184 ?_
    rw [show (((nI i) + 2) : Int32) = (nI (i + 2)) from (nI_add i 2)]
    refine va_sld hx hb hX hbl hbA hS (vp_in_nI (by omega) (by omega)) dL_law_1185 ?_
    refine lv_aload_n hx hb dL_law_1186 rfl (lv_at hl 1 rfl) ?_
    refine va_calli (vx_runSW (As := [.ref h, .int (xs (nI (i + 1)).toNatClampNeg), .int (xs (nI (i + 2)).toNatClampNeg), .ref o]) (rest := []) ⟨hx, hb, hml, hown, hts⟩ (c_L_within_1 l hst D s.heap.size cA cL (wM hm d2 cA (th) z c) h d z c o g (xs (nI (i + 1)).toNatClampNeg) (xs (nI (i + 2)).toNatClampNeg) hn) (vx_cwSW 4 hts gL_law_L_within rfl rfl rfl (by decide +kernel) ⟨Nat.le_of_ble_eq_true rfl, Nat.le_of_ble_eq_true rfl⟩) ⟨zPre.blind, zPre.call (Nat.le_refl _) hP hD hK hE hS⟩ rfl rfl hl.1 rfl (lv_room (Nat.le_of_ble_eq_true rfl)) dL_law_1187 hf1) hS (fun _ _ h9 => h9) (fun _ h9 => h9) (fun r_1187 _ t H locs ht hvm h_1187 hB hz1 hk1 hS => ?_)
    have h_1187 : r_1187 = 1 := h_1187
    subst h_1187
    obtain ⟨hP, hD⟩ := hB
    rw [ht] at hP
    have hP : va_P D vwCl (wX h d cA z c ++ ((o, .inl (cL, 1, .inr (.inl g))) :: wM hm d2 cA (th) z c)) H := hP
    have hD : va_D (zA s.heap.size) (wX h d cA z c ++ ((o, .inl (cL, 1, .inr (.inl g))) :: wM hm d2 cA (th) z c)) := hD
    refine lv_istore (lv' := [(5, .int 1), (4, .int (nI i)), (3, .ref o), (2, .ref hm), (1, .ref h), (0, .ref b)]) hx hb dL_law_1190 hl (by decide) rfl (fun ls hl => ?_)
    refine lv_aload_n hx hb dL_law_1192 rfl (lv_at hl 3 rfl) ?_
    refine lv_aload_n hx hb dL_law_1193 rfl (lv_at hl 5 rfl) ?_
    refine lv_iload hx hb dL_law_1194 (lv_at hl 1 rfl) ?_
    refine lv_iconst (v := 1) hx hb dL_law_1196 (by decide) ?_
    refine lv_iadd hx hb dL_law_1197 ?_
    rw [show (((nI i) + 1) : Int32) = (nI (i + 1)) from (nI_add i 1)]
    refine va_sld hx hb hX hbl hbA hS (vp_in_nI (by omega) (by omega)) dL_law_1198 ?_
    refine lv_aload_n hx hb dL_law_1199 rfl (lv_at hl 5 rfl) ?_
    refine lv_iload hx hb dL_law_1200 (lv_at hl 1 rfl) ?_
    refine lv_iconst (v := 2) hx hb dL_law_1202 (by decide) ?_
    refine lv_iadd hx hb dL_law_1203 ?_
    rw [show (((nI i) + 2) : Int32) = (nI (i + 2)) from (nI_add i 2)]
    refine va_sld hx hb hX hbl hbA hS (vp_in_nI (by omega) (by omega)) dL_law_1204 ?_
    have hP : va_P D vwCl (wM hm d2 cA (th) z c ++ (wX h d cA z c ++ [(o, .inl (cL, 1, .inr (.inl g)))])) H := hP.sub [9, 10, 11, 12, 13, 14, 15, 16, 0, 1, 2, 3, 4, 5, 6, 7, 8] rfl
    have hD : va_D (zA s.heap.size) (wM hm d2 cA (th) z c ++ (wX h d cA z c ++ [(o, .inl (cL, 1, .inr (.inl g)))])) := hD.sub [9, 10, 11, 12, 13, 14, 15, 16, 0, 1, 2, 3, 4, 5, 6, 7, 8] (by decide) rfl
    refine va_calli (va_runV (As := [.int (xs (nI (i + 1)).toNatClampNeg), .int (xs (nI (i + 2)).toNatClampNeg)]) (rest := []) ⟨hx, hb, hml, hown, hts⟩ (c_X1_within_1 l D s.heap.size cA cL (wX h d cA z c ++ [(o, .inl (cL, 1, .inr (.inl g)))]) hm d2 (th) z c (xs (nI (i + 1)).toNatClampNeg) (xs (nI (i + 2)).toNatClampNeg) hn) (cwV 2 hts gL_law_X1_within rfl rfl rfl (by decide +kernel) ⟨Nat.le_of_ble_eq_true rfl, Nat.le_of_ble_eq_true rfl⟩) ⟨zPre.blind, va_recv hK hP (ci := 1) (q0 := 0) rfl rfl, zPre.call (Nat.le_refl _) hP hD hK hE hS⟩ rfl rfl hl.1 rfl (lv_room (Nat.le_of_ble_eq_true rfl)) dL_law_1205 hf1) hS (fun _ _ h9 => h9) (fun _ h9 => h9) (fun r_1205 _ t H locs ht hvm h_1205 hB hz1 hk1 hS => ?_)
    have h_1205 : r_1205 = (0) := h_1205
    subst h_1205
    obtain ⟨hP, hD⟩ := hB
    rw [ht] at hP
    have hP : va_P D vwCl (wM hm d2 cA (1) z c ++ (wX h d cA z c ++ [(o, .inl (cL, 1, .inr (.inl g)))])) H := hP
    have hD : va_D (zA s.heap.size) (wM hm d2 cA (1) z c ++ (wX h d cA z c ++ [(o, .inl (cL, 1, .inr (.inl g)))])) := hD
    refine lv_istore (lv' := [(6, .int 0), (5, .int 1), (4, .int (nI i)), (3, .ref o), (2, .ref hm), (1, .ref h), (0, .ref b)]) hx hb dL_law_1208 hl (by decide) rfl (fun ls hl => ?_)
    refine lv_aload_n hx hb dL_law_1210 rfl (lv_at hl 4 rfl) ?_
    refine vp_callSi ((va_runV (As := []) (rest := []) ⟨hx, hb, hml, hown, hts⟩ (c_X1_thrown l D s.heap.size cA cL (wX h d cA z c ++ [(o, .inl (cL, 1, .inr (.inl g)))]) hm d2 (1) z c  ) (cwV 0 hts gL_law_X1_thrown rfl rfl rfl (by decide +kernel) ⟨Nat.le_of_ble_eq_true rfl, Nat.le_of_ble_eq_true rfl⟩) ⟨zPre.blind, va_recv hK hP (ci := 1) (q0 := 0) rfl rfl, zPre.call (Nat.le_refl _) hP hD hK hE hS⟩ rfl rfl hl.1 rfl (lv_room (Nat.le_of_ble_eq_true rfl)) dL_law_1211 hf1).run) (fun r_1211 h_1211 => ?_)
    have h_1211 : r_1211 = 1 := h_1211
    subst h_1211
    refine lv_iload hx hb dL_law_1214 (lv_at hl 1 rfl) ?_
    refine lv_icmp_eq (tgt := 1221) hx hb dL_law_1216 (by decide) (fun _ => ?_) (fun c_1216 => absurd c_1216 (by decide))
    refine lv_iload hx hb dL_law_1221 (lv_at hl 1 rfl) ?_
    refine lv_if_ne (tgt := 1238) hx hb dL_law_1223 (by decide) (fun _ => ?_) (fun c_1223 => absurd c_1223 (by decide))
    refine lv_goto (tgt := 1254) hx hb dL_law_1238 (by decide) ?_
    have hP : va_P D vwCl (wX h d cA z c ++ ((o, .inl (cL, 1, .inr (.inl g))) :: wM hm d2 cA (1) z c)) H := hP.sub [8, 9, 10, 11, 12, 13, 14, 15, 16, 0, 1, 2, 3, 4, 5, 6, 7] rfl
    have hD : va_D (zA s.heap.size) (wX h d cA z c ++ ((o, .inl (cL, 1, .inr (.inl g))) :: wM hm d2 cA (1) z c)) := hD.sub [8, 9, 10, 11, 12, 13, 14, 15, 16, 0, 1, 2, 3, 4, 5, 6, 7] (by decide) rfl
    refine W.widen (k := cells + 1) (n := slots + 6) (by omega) (by omega) ?_
    exact kk z c (1) g hc hz _ _ hP hD hS ls (lv_sub hl [2, 3, 4, 5, 6] rfl)

set_option maxHeartbeats 8000000 in
set_option maxRecDepth 100000 in
theorem law_19 {p : Program} {l : Launch} {e : Env} {s : State} {m : MethodId} {below : List Frame} {meth : Method} {cd : Code} {b L : Nat} {xs : Nat → Int32} {D : va_G} {cA cL : ClassId} (C9 : zC9 p l s m meth cd b L xs D cA cL) {h hm o : Nat} {d d2 : Nat → Nat} {z : S7} {c : C5} {th : Int32} {g : Nat → Int64} (hc : okC c) (hz : okZ z) {i : Nat} (hi : i + 5 ≤ L) {cells slots : Nat} (hce : cells + 1 ≤ 1045) (hsl : slots + 6 ≤ 8314) (kk : zKK p l e s m below meth cd b D cA cL h hm o d d2 i cells slots) {H : Heap} {locs : List Loc} (hP : va_P D vwCl (zLW h d hm d2 o cA cL z c th g) H) (hD : va_D (zA s.heap.size) (zLW h d hm d2 o cA cL z c th g)) (hS : va_S (zA s.heap.size) s.heap H locs) {ls : Array Slot} (hl : lv_has ls 7 [(4, .int (nI i)), (3, .ref o), (2, .ref hm), (1, .ref h), (0, .ref b)]) : W p l e room_1 s m #[Value.ref b] below meth cd H locs cells slots (lw_Z below #[Value.ref b] s) (F0 m 1241 ls []) := by
  obtain ⟨hst, hx, hb, hml, hown, hts, hX, hbl, hK, hE, hL⟩ := C9
  have hbA : ¬ zA s.heap.size b := Nat.not_le.mpr hbl
  have hf0 : cells + 0 ≤ room_1.cells ∧ slots + 0 ≤ room_1.slots := ⟨by show cells + 0 ≤ 1045; omega, by show slots + 0 ≤ 8314; omega⟩
  have hf1 : cells + 1 ≤ room_1.cells ∧ slots + 6 ≤ room_1.slots := ⟨hce, hsl⟩
  refine lv_aload_n hx hb dL_law_1241 rfl (lv_at hl 3 rfl) ?_
  refine vp_callSi ((va_runV (As := []) (rest := []) ⟨hx, hb, hml, hown, hts⟩ (c_X0_inOctaves l D s.heap.size cA cL ((o, .inl (cL, 1, .inr (.inl g))) :: wM hm d2 cA (th) z c) h d z c) (cwV 0 hts gL_law_X0_inOctaves rfl rfl rfl (by decide +kernel) ⟨Nat.le_of_ble_eq_true rfl, Nat.le_of_ble_eq_true rfl⟩) ⟨zPre.blind, va_recv hK hP (ci := 0) (q0 := 0) rfl rfl, zPre.call (Nat.le_refl _) hP hD hK hE hS⟩ rfl rfl hl.1 rfl (lv_room (Nat.le_of_ble_eq_true rfl)) dL_law_1242 hf0).run) (fun r_1242 h_1242 => ?_)
  have h_1242 : r_1242 = zIO z.1 := h_1242
  subst h_1242
  refine lv_aload_n hx hb dL_law_1245 rfl (lv_at hl 2 rfl) ?_
  have hP : va_P D vwCl (wM hm d2 cA (th) z c ++ (wX h d cA z c ++ [(o, .inl (cL, 1, .inr (.inl g)))])) H := hP.sub [9, 10, 11, 12, 13, 14, 15, 16, 0, 1, 2, 3, 4, 5, 6, 7, 8] rfl
  have hD : va_D (zA s.heap.size) (wM hm d2 cA (th) z c ++ (wX h d cA z c ++ [(o, .inl (cL, 1, .inr (.inl g)))])) := hD.sub [9, 10, 11, 12, 13, 14, 15, 16, 0, 1, 2, 3, 4, 5, 6, 7, 8] (by decide) rfl
  refine va_calli (va_runV (As := []) (rest := [.int (zIO z.1)]) ⟨hx, hb, hml, hown, hts⟩ (c_X1_inOctaves l D s.heap.size cA cL (wX h d cA z c ++ [(o, .inl (cL, 1, .inr (.inl g)))]) hm d2 (th) z c  hz) (cwV 0 hts gL_law_X1_inOctaves rfl rfl rfl (by decide +kernel) ⟨Nat.le_of_ble_eq_true rfl, Nat.le_of_ble_eq_true rfl⟩) ⟨zPre.blind, va_recv hK hP (ci := 1) (q0 := 0) rfl rfl, zPre.call (Nat.le_refl _) hP hD hK hE hS⟩ rfl rfl hl.1 rfl (lv_room (Nat.le_of_ble_eq_true rfl)) dL_law_1246 hf0) hS (fun _ _ h9 => h9) (fun _ h9 => h9) (fun r_1246 _ t H locs ht hvm h_1246 hB hz1 hk1 hS => ?_)
  have h_1246 : r_1246 = (zIO z.1) := h_1246
  subst h_1246
  obtain ⟨hP, hD⟩ := hB
  rw [ht] at hP
  have hP : va_P D vwCl (wM hm d2 cA (0) z c ++ (wX h d cA z c ++ [(o, .inl (cL, 1, .inr (.inl g)))])) H := hP
  have hD : va_D (zA s.heap.size) (wM hm d2 cA (0) z c ++ (wX h d cA z c ++ [(o, .inl (cL, 1, .inr (.inl g)))])) := hD
  refine lv_icmp_eq (tgt := 1254) hx hb dL_law_1249 (by decide) (fun c_1249 => ?_) (fun c_1249 => ?_)
  · have hP : va_P D vwCl (wX h d cA z c ++ ((o, .inl (cL, 1, .inr (.inl g))) :: wM hm d2 cA (0) z c)) H := hP.sub [8, 9, 10, 11, 12, 13, 14, 15, 16, 0, 1, 2, 3, 4, 5, 6, 7] rfl
    have hD : va_D (zA s.heap.size) (wX h d cA z c ++ ((o, .inl (cL, 1, .inr (.inl g))) :: wM hm d2 cA (0) z c)) := hD.sub [8, 9, 10, 11, 12, 13, 14, 15, 16, 0, 1, 2, 3, 4, 5, 6, 7] (by decide) rfl
    refine W.widen (k := cells + 1) (n := slots + 6) (by omega) (by omega) ?_
    exact kk z c (0) g hc hz _ _ hP hD hS ls (lv_sub hl [0, 1, 2, 3, 4] rfl)
  · exact absurd rfl c_1249
