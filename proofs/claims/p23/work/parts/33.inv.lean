/-! what holds of an aviary all along -/
def zCs (B : Nat) (z : S7) : Prop := ∃ fr ch le cl su : Nat → Nat, (∀ i, i < 4 → z.2.2.1 i = nI (fr i) ∧ z.2.2.2.1 i = nI (ch i) ∧ z.2.2.2.2.1 i = nI (le i) ∧ z.2.2.2.2.2.1 i = nI (cl i) ∧ le i ≤ ch i ∧ ch i ≤ fr i ∧ cl i ≤ fr i) ∧ (∀ k, k < 12 → z.2.2.2.2.2.2 k = nI (su k)) ∧ zSu fr 4 = zSu su 12 ∧ zSu su 12 ≤ B
def zRs (c : C5) (r : Nat → Int32) : Prop := ∀ i, i < 4 → r i = -1 ∨ ∃ j, j ≤ 120 ∧ r i = nI (100 * j) ∧ zH c j
def zInv (B : Nat) (z : S7) (c : C5) : Prop := (c.1 < 12 ∧ c.2.1 < 8 ∧ 0 ≤ c.2.2.1 ∧ c.2.2.1 ≤ 100) ∧ zRs c z.1 ∧ (∀ i, i < 4 → zR12 (z.2.1 i)) ∧ zCs B z
theorem zInv.okC {B : Nat} {z : S7} {c : C5} (h : zInv B z c) : okC c := ⟨h.1.1, h.1.2.1, h.1.2.2.1⟩
theorem zInv.mono {B B2 : Nat} {z : S7} {c : C5} (h : zInv B z c) (hB : B ≤ B2) : zInv B2 z c := by
  obtain ⟨h1, h2, h3, fr, ch, le, cl, su, h4, h5, h6, h7⟩ := h
  exact ⟨h1, h2, h3, fr, ch, le, cl, su, h4, h5, h6, Nat.le_trans h7 hB⟩
theorem zJ_p {j : Nat} (hj : j ≤ 120) : zp (nI (100 * j)) := ⟨nI_pos' (by omega), (nI_leI (b := 12000) (by omega) (by decide)).mpr (by omega)⟩
theorem zNext_h {c : C5} (hc : okC c) {r p : Int32} (hp : zp p) (h : r = -1 ∨ ∃ j, j ≤ 120 ∧ r = nI (100 * j) ∧ zH c j) : ∃ j, j ≤ 120 ∧ zNext c r p = nI (100 * j) ∧ zH c j := by
  by_cases q : ¬ r = -1 ∧ zAbs (p - r) ≤ c.2.2.2.1
  · rw [← zNext_k q]
    rcases h with h | h
    · exact absurd h q.1
    · exact h
  · rw [← zNext_n q]
    obtain ⟨a, ha, rfl⟩ := nI_of2 (n := 12000) (M := 12000) rfl (Int32.not_lt.mpr hp.1) hp.2
    obtain ⟨j, h1, h2, h3, -⟩ := zNear_s hc ha
    exact ⟨j, h1, h2, h3⟩
theorem zR_h {B : Nat} {z : S7} {c : C5} (h : zInv B z c) {i : Nat} (hi : i < 4) {p : Int32} (hp : zp p) : ∃ j, j ≤ 120 ∧ zR c i p z = nI (100 * j) ∧ zH c j := zNext_h h.okC hp (h.2.1 i hi)
theorem zR_p {B : Nat} {z : S7} {c : C5} (h : zInv B z c) {i : Nat} (hi : i < 4) {p : Int32} (hp : zp p) : zp (zR c i p z) := by
  obtain ⟨j, h1, h2, -⟩ := zR_h h hi hp
  rw [h2]
  exact zJ_p h1
theorem zG_r {B : Nat} {z : S7} {c : C5} (h : zInv B z c) {i : Nat} (hi : i < 4) {p : Int32} (hp : zp p) : zR12 (zG c i p z) := by
  have h1 := zR_p h hi hp
  show zR12 (if zLeap c (z.1 i) (zR c i p z) then 0 else zTow c.2.2.1 (z.2.1 i) (zR c i p z - p))
  by_cases q : zLeap c (z.1 i) (zR c i p z)
  · rw [if_pos q]; exact ⟨by decide, by decide⟩
  · rw [if_neg q]; exact zTow_r h.1.2.2.1 h.1.2.2.2 (h.2.2.1 i hi) (zDue_i h1 hp).2
theorem zOut_x {B : Nat} {z : S7} {c : C5} (h : zInv B z c) {i : Nat} (hi : i < 4) {p : Int32} (hp : zp p) : ¬ zOut c i p z = -99999 := by
  have h1 := zG_r h hi hp
  have h2 := zp_i hp
  have e : (p + zG c i p z).toInt = p.toInt + (zG c i p z).toInt := fb_addI (by omega) (by omega)
  intro q
  have q1 : (p + zG c i p z).toInt = (-99999 : Int32).toInt := congrArg Int32.toInt q
  have q2 : (-99999 : Int32).toInt = -99999 := by decide
  omega
theorem zB_i {b : Prop} [Decidable b] {f : Nat → Int32} {i n : Nat} (h : f i = nI n) : zB b f i i = nI (n + if b then 1 else 0) := by
  unfold zB
  by_cases q : b
  · rw [if_pos q, if_pos q, pk_us, h, nI_1]
  · rw [if_neg q, if_neg q, h, Nat.add_zero]
theorem zB_o {b : Prop} [Decidable b] {f : Nat → Int32} {i k : Nat} (h : k ≠ i) : zB b f i k = f k := by
  unfold zB
  by_cases q : b
  · rw [if_pos q, pk_un h]
  · rw [if_neg q]
def zUp (f : Nat → Nat) (i d : Nat) : Nat → Nat := fun j => if j = i then f i + d else f j
theorem zUp_i (f : Nat → Nat) (i d : Nat) : zUp f i d i = f i + d := if_pos rfl
theorem zUp_o (f : Nat → Nat) (i d : Nat) {j : Nat} (h : j ≠ i) : zUp f i d j = f j := if_neg h
theorem zInv.sg {B : Nat} {z : S7} {c : C5} (h : zInv B z c) {i : Nat} (hi : i < 4) {p : Int32} (hp : zp p) : zInv (B + 1) (zSg c i p z) c := by
  have hJ := zR_h h hi hp
  have hG := zG_r h hi hp
  obtain ⟨h1, h2, h3, fr, ch, le, cl, su, h4, h5, h6, h7⟩ := h
  refine ⟨h1, fun k hk => ?_, fun k hk => ?_, zUp fr i 1, zUp ch i (if zChg (z.1 i) (zR c i p z) then 1 else 0), zUp le i (if zLeap c (z.1 i) (zR c i p z) then 1 else 0), zUp cl i (if ¬ zStep c (zOut c i p z) = -1 then 1 else 0), zUp su (zSem p) 1, fun k hk => ?_, fun k hk => ?_, ?_, ?_⟩
  · by_cases q : k = i
    · subst q
      rw [zSg_1]; exact Or.inr hJ
    · have e : (zSg c i p z).1 k = z.1 k := pk_un q
      rw [e]; exact h2 k hk
  · by_cases q : k = i
    · subst q
      rw [zSg_2]; exact hG
    · have e : (zSg c i p z).2.1 k = z.2.1 k := pk_un q
      rw [e]; exact h3 k hk
  · obtain ⟨a1, a2, a3, a4, a5, a6, a7⟩ := h4 k hk
    by_cases q : k = i
    · subst q
      rw [zUp_i, zUp_i, zUp_i, zUp_i]
      refine ⟨?_, zB_i a2, zB_i a3, zB_i a4, ?_, ?_, ?_⟩
      · show upd z.2.2.1 k (z.2.2.1 k + 1) k = _
        rw [pk_us, a1, nI_1]
      · by_cases q1 : zLeap c (z.1 k) (zR c k p z)
        · rw [if_pos q1, if_pos q1.1]; omega
        · rw [if_neg q1]; omega
      · split <;> omega
      · split <;> omega
    · rw [zUp_o _ _ _ q, zUp_o _ _ _ q, zUp_o _ _ _ q, zUp_o _ _ _ q]
      have e : (zSg c i p z).2.2.1 k = z.2.2.1 k := pk_un q
      exact ⟨e.trans a1, (zB_o q).trans a2, (zB_o q).trans a3, (zB_o q).trans a4, a5, a6, a7⟩
  · show upd z.2.2.2.2.2.2 (zSem p) (z.2.2.2.2.2.2 (zSem p) + 1) k = _
    by_cases q : k = zSem p
    · subst q
      rw [pk_us, zUp_i, h5 _ hk, nI_1]
    · rw [pk_un q, zUp_o _ _ _ q]; exact h5 k hk
  · rw [zSu_inc (f := fr) (zUp_i fr i 1) (fun j hj => zUp_o fr i 1 hj) 4 hi, zSu_inc (f := su) (zUp_i su (zSem p) 1) (fun j hj => zUp_o su (zSem p) 1 hj) 12 (zSem_lt p), h6]
  · rw [zSu_inc (f := su) (zUp_i su (zSem p) 1) (fun j hj => zUp_o su (zSem p) 1 hj) 12 (zSem_lt p)]
    omega
theorem zInv.sl {B : Nat} {z : S7} {c : C5} (h : zInv B z c) {i : Nat} (hi : i < 4) {a b : Int32} {f : Nat} (ha : zp a) (hb : zp b) (hf : 2 ≤ f) (hf2 : f ≤ 50) : ∀ k, k ≤ f → zInv (B + k) (zSl c i a b f z k) c := by
  intro k
  induction k with
  | zero => exact fun _ => h
  | succ k ih => exact fun hk => (ih (by omega)).sg hi (zPit_ok ha hb hf hf2 (by omega))
theorem zInv.ng {B : Nat} {z : S7} {c : C5} (h : zInv B z c) {i : Nat} (hi : i < 4) {p : Int32} (hp : zp p) : ∀ k, zInv (B + k) (zNg c i p z k) c := by
  intro k
  induction k with
  | zero => exact h
  | succ k ih => exact ih.sg hi hp
theorem zInv.rest {B : Nat} {z : S7} {c : C5} (h : zInv B z c) (i : Nat) : zInv B ((upd z.1 i (-1)), (upd z.2.1 i 0), z.2.2.1, z.2.2.2.1, z.2.2.2.2.1, z.2.2.2.2.2.1, z.2.2.2.2.2.2) c := by
  obtain ⟨h1, h2, h3, h4⟩ := h
  refine ⟨h1, fun k hk => ?_, fun k hk => ?_, h4⟩
  · show upd z.1 i (-1) k = -1 ∨ ∃ j, j ≤ 120 ∧ upd z.1 i (-1) k = nI (100 * j) ∧ zH c j
    by_cases q : k = i
    · subst q; exact Or.inl pk_us
    · rw [pk_un q]; exact h2 k hk
  · show zR12 (upd z.2.1 i 0 k)
    by_cases q : k = i
    · subst q; rw [pk_us]; exact ⟨by decide, by decide⟩
    · rw [pk_un q]; exact h3 k hk
theorem zInv.nudge {B : Nat} {z : S7} {c : C5} (h : zInv B z c) {sp le gl : Int32} (hs : 0 ≤ sp ∧ sp ≤ 100) : zInv B z (c.1, c.2.1, sp, le, gl) := by
  obtain ⟨h1, h2, h3, h4⟩ := h
  exact ⟨⟨h1.1, h1.2.1, hs.1, hs.2⟩, h2, h3, h4⟩
theorem zLn_c (c : C5) (r : Nat → Int32) : ∀ k, (∀ i, i < k → (zLn c r k).1 i = -1 ∨ ((zLn c r k).1 i = r i ∧ ¬ zStep c (r i) = -1)) ∧ (∀ i, k ≤ i → (zLn c r k).1 i = r i) ∧ ∃ m, m ≤ k ∧ (zLn c r k).2 = nI m := by
  intro k
  induction k with
  | zero => exact ⟨fun i h => absurd h (Nat.not_lt_zero _), fun i _ => rfl, 0, Nat.le_refl _, nI_0.symm⟩
  | succ k ih =>
    obtain ⟨h1, h2, m, h3, h4⟩ := ih
    have hk := h2 k (Nat.le_refl _)
    by_cases q : ¬ (zLn c r k).1 k = -1 ∧ zStep c ((zLn c r k).1 k) = -1
    · rw [zLn_1 q.1 q.2]
      refine ⟨fun i hi => ?_, fun i hi => ?_, m + 1, by omega, ?_⟩
      · show upd (zLn c r k).1 k (-1) i = -1 ∨ (upd (zLn c r k).1 k (-1) i = r i ∧ ¬ zStep c (r i) = -1)
        by_cases e : i = k
        · subst e; exact Or.inl pk_us
        · rw [pk_un e]; exact h1 i (by omega)
      · show upd (zLn c r k).1 k (-1) i = r i
        rw [pk_un (by omega)]; exact h2 i (by omega)
      · show (zLn c r k).2 + 1 = nI (m + 1)
        rw [h4, nI_1]
    · rw [zLn_0 q]
      refine ⟨fun i hi => ?_, fun i hi => h2 i (by omega), m, by omega, h4⟩
      by_cases e : i = k
      · subst e
        by_cases e2 : (zLn c r i).1 i = -1
        · exact Or.inl e2
        · exact Or.inr ⟨hk, fun e3 => q ⟨e2, by rw [hk]; exact e3⟩⟩
      · exact h1 i (by omega)
theorem zInv.scale {B : Nat} {z : S7} {c : C5} (h : zInv B z c) {k2 m2 : Nat} (hk : k2 < 12) (hm : m2 < 8) : zInv B ((zL (k2, m2, c.2.2.1, c.2.2.2.1, c.2.2.2.2) z.1).1, z.2.1, z.2.2.1, z.2.2.2.1, z.2.2.2.2.1, z.2.2.2.2.2.1, z.2.2.2.2.2.2) (k2, m2, c.2.2.1, c.2.2.2.1, c.2.2.2.2) := by
  obtain ⟨h1, h2, h3, h4⟩ := h
  refine ⟨⟨hk, hm, h1.2.2⟩, fun i hi => ?_, h3, h4⟩
  show (zLn (k2, m2, c.2.2.1, c.2.2.2.1, c.2.2.2.2) z.1 4).1 i = -1 ∨ ∃ j, j ≤ 120 ∧ (zLn (k2, m2, c.2.2.1, c.2.2.2.1, c.2.2.2.2) z.1 4).1 i = nI (100 * j) ∧ zH (k2, m2, c.2.2.1, c.2.2.2.1, c.2.2.2.2) j
  rcases (zLn_c (k2, m2, c.2.2.1, c.2.2.2.1, c.2.2.2.2) z.1 4).1 i hi with q | ⟨q, q2⟩
  · exact Or.inl q
  · rw [q]
    rcases h2 i hi with e | ⟨j, e1, e2, e3⟩
    · exact Or.inl e
    · refine Or.inr ⟨j, e1, e2, ?_⟩
      rw [e2] at q2
      exact q2
theorem zI_inv : zInv 0 zI cI := by
  refine ⟨⟨by decide, by decide, by decide, by decide⟩, fun i hi => Or.inl ?_, fun i hi => ⟨(by decide : -12000 ≤ (0 : Int32).toInt), (by decide : (0 : Int32).toInt ≤ 12000)⟩, fun _ => 0, fun _ => 0, fun _ => 0, fun _ => 0, fun _ => 0, fun i hi => ⟨nI_0.symm, nI_0.symm, nI_0.symm, nI_0.symm, Nat.le_refl _, Nat.le_refl _, Nat.le_refl _⟩, fun k hk => nI_0.symm, rfl, Nat.le_refl _⟩
  rcases (show i = 0 ∨ i = 1 ∨ i = 2 ∨ i = 3 by omega) with rfl | rfl | rfl | rfl <;> decide +kernel
theorem zSmall {m : Nat} (h : m < 2 ^ 31) : ¬ nI m = -99999 := by
  intro q
  have q1 : (nI m).toInt = (-99999 : Int32).toInt := congrArg Int32.toInt q
  have q2 : (-99999 : Int32).toInt = -99999 := by decide
  rw [nI_toInt h] at q1
  omega
theorem zRung_x {B : Nat} {z : S7} {c : C5} (h : zInv B z c) {i : Nat} (hi : i < 4) : ¬ z.1 i = -99999 := by
  rcases h.2.1 i hi with q | ⟨j, q1, q2, -⟩
  · rw [q]; decide
  · rw [q2]; exact zSmall (by omega)
theorem zLost_x (c : C5) (r : Nat → Int32) : ¬ (zL c r).2 = -99999 := by
  obtain ⟨-, -, m, h1, h2⟩ := zLn_c c r 4
  show ¬ (zLn c r 4).2 = -99999
  rw [h2]
  exact zSmall (by omega)
theorem zChg_n {B : Nat} {z : S7} {c : C5} (h : zInv B z c) {i : Nat} (hi : i < 4) : ∃ m, m ≤ B ∧ z.2.2.2.1 i = nI m := by
  obtain ⟨-, -, -, fr, ch, le, cl, su, h4, h5, h6, h7⟩ := h
  obtain ⟨a1, a2, a3, a4, a5, a6, a7⟩ := h4 i hi
  have := zSu_mem (f := fr) 4 i hi
  exact ⟨ch i, by omega, a2⟩
theorem zSlide_x {B : Nat} {z z2 : S7} {c : C5} (h : zInv B z c) (h2 : zInv (B + 50) z2 c) (hB : B ≤ 9000) {i : Nat} (hi : i < 4) : ¬ z2.2.2.2.1 i - z.2.2.2.1 i = -99999 := by
  obtain ⟨m, h3, h4⟩ := zChg_n h hi
  obtain ⟨n, h5, h6⟩ := zChg_n h2 hi
  rw [h4, h6]
  intro q
  have q1 : (nI n - nI m).toInt = (-99999 : Int32).toInt := congrArg Int32.toInt q
  have q2 : (-99999 : Int32).toInt = -99999 := by decide
  rw [pk_sub_toInt (by omega) (by omega)] at q1
  omega
