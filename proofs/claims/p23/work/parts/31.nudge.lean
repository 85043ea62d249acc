/-! the nudge goes towards what is due, never past it -/
theorem zMulB {m s : Int} (h3 : 0 ≤ s) (h4 : s ≤ 100) : (0 ≤ m → 0 ≤ m * s ∧ m * s ≤ m * 100) ∧ (m ≤ 0 → m * 100 ≤ m * s ∧ m * s ≤ 0) := by
  constructor
  · intro h
    exact ⟨Int.mul_nonneg h h3, Int.mul_le_mul_of_nonneg_left h4 h⟩
  · intro h
    refine ⟨Int.mul_le_mul_of_nonpos_left h h4, ?_⟩
    have := Int.mul_le_mul_of_nonpos_left h h3
    rwa [Int.mul_zero] at this
theorem zTdiv {P m : Int} (h : (0 ≤ P ∧ P ≤ m * 100) ∨ (m * 100 ≤ P ∧ P ≤ 0)) : (0 ≤ P.tdiv ((100 : Nat) : Int) ∧ P.tdiv ((100 : Nat) : Int) ≤ m) ∨ (m ≤ P.tdiv ((100 : Nat) : Int) ∧ P.tdiv ((100 : Nat) : Int) ≤ 0) := by
  rcases h with ⟨h1, h2⟩ | ⟨h1, h2⟩
  · rw [Int.tdiv_eq_ediv_of_nonneg h1]
    omega
  · have e : P.tdiv ((100 : Nat) : Int) = -((-P).tdiv ((100 : Nat) : Int)) := by rw [Int.neg_tdiv, Int.neg_neg]
    rw [e, Int.tdiv_eq_ediv_of_nonneg (show 0 ≤ -P by omega)]
    omega
abbrev zR12 (x : Int32) : Prop := -12000 ≤ x.toInt ∧ x.toInt ≤ 12000
theorem zTow_i {sp n due : Int32} (hs0 : 0 ≤ sp) (hs : sp ≤ 100) (hn : zR12 n) (hd : zR12 due) : ∃ mv : Int, (zTow sp n due).toInt = n.toInt + mv ∧ ((0 ≤ mv ∧ mv ≤ due.toInt - n.toInt) ∨ (due.toInt - n.toInt ≤ mv ∧ mv ≤ 0)) := by
  have s0 : 0 ≤ sp.toInt := (fa_le _ _).mp hs0
  have s1 : sp.toInt ≤ 100 := (fa_le _ _).mp hs
  have e1 : (due - n).toInt = due.toInt - n.toInt := fb_subI (by omega) (by omega)
  have hB := zMulB (m := due.toInt - n.toInt) s0 s1
  have hP : (0 ≤ (due.toInt - n.toInt) * sp.toInt ∧ (due.toInt - n.toInt) * sp.toInt ≤ (due.toInt - n.toInt) * 100) ∨ ((due.toInt - n.toInt) * 100 ≤ (due.toInt - n.toInt) * sp.toInt ∧ (due.toInt - n.toInt) * sp.toInt ≤ 0) := by
    rcases Int.le_total 0 (due.toInt - n.toInt) with q | q
    · exact Or.inl (hB.1 q)
    · exact Or.inr (hB.2 q)
  have e2 : ((due - n) * sp).toInt = (due.toInt - n.toInt) * sp.toInt := by
    rw [← e1]
    refine fb_mulI ?_ ?_ <;> rw [e1] <;> omega
  have e3 : ((due - n) * sp / 100).toInt = ((due.toInt - n.toInt) * sp.toInt).tdiv ((100 : Nat) : Int) := by
    have := z_divI ((due - n) * sp) (d := 100) (by decide) (by decide)
    rw [e2] at this
    exact this
  have hT := zTdiv hP
  rw [← e3] at hT
  have e0 : (0 : Int32).toInt = 0 := rfl
  have e9 : (1 : Int32).toInt = 1 := rfl
  have e8 : (-1 : Int32).toInt = -1 := rfl
  have fin : ∀ x : Int32, ((0 ≤ x.toInt ∧ x.toInt ≤ due.toInt - n.toInt) ∨ (due.toInt - n.toInt ≤ x.toInt ∧ x.toInt ≤ 0)) → ∃ mv : Int, (n + x).toInt = n.toInt + mv ∧ ((0 ≤ mv ∧ mv ≤ due.toInt - n.toInt) ∨ (due.toInt - n.toInt ≤ mv ∧ mv ≤ 0)) := fun x hx => ⟨x.toInt, fb_addI (by omega) (by omega), hx⟩
  unfold zTow
  by_cases q : (due - n) * sp / 100 = 0 ∧ ¬ sp = 0
  · rw [if_pos q]
    by_cases q1 : 0 < due - n
    · rw [if_pos q1]
      have := (fa_lt _ _).mp q1
      exact fin 1 (by omega)
    · rw [if_neg q1]
      by_cases q2 : due - n < 0
      · rw [if_pos q2]
        have := (fa_lt _ _).mp q2
        exact fin (-1) (by omega)
      · rw [if_neg q2]
        have h1 : ¬ (0 < due - n) ↔ _ := not_congr (fa_lt 0 (due - n))
        have h2 : ¬ (due - n < 0) ↔ _ := not_congr (fa_lt (due - n) 0)
        have h3 := h1.mp q1
        have h4 := h2.mp q2
        exact fin 0 (by omega)
  · rw [if_neg q]
    exact fin _ hT
theorem zTow_r {sp n due : Int32} (hs0 : 0 ≤ sp) (hs : sp ≤ 100) (hn : zR12 n) (hd : zR12 due) : zR12 (zTow sp n due) := by
  obtain ⟨mv, h1, h2⟩ := zTow_i hs0 hs hn hd
  show -12000 ≤ (zTow sp n due).toInt ∧ (zTow sp n due).toInt ≤ 12000
  omega
theorem zp_i {p : Int32} (h : zp p) : 0 ≤ p.toInt ∧ p.toInt ≤ 12000 := ⟨(fa_le _ _).mp h.1, (fa_le _ _).mp h.2⟩
theorem zDue_i {r p : Int32} (hr : zp r) (hp : zp p) : (r - p).toInt = r.toInt - p.toInt ∧ zR12 (r - p) := by
  have h1 := zp_i hr
  have h2 := zp_i hp
  have e : (r - p).toInt = r.toInt - p.toInt := fb_subI (by omega) (by omega)
  refine ⟨e, ?_⟩
  show -12000 ≤ (r - p).toInt ∧ (r - p).toInt ≤ 12000
  omega
/-- the nudge after so many more frames -/
def zIt (sp due : Int32) : Nat → Int32 → Int32
  | 0, n => n
  | k + 1, n => zTow sp (zIt sp due k n) due
theorem zIt_s (sp due : Int32) : ∀ k n, zIt sp due k (zTow sp n due) = zIt sp due (k + 1) n := by
  intro k
  induction k with
  | zero => exact fun _ => rfl
  | succ k ih =>
    intro n
    show zTow sp (zIt sp due k (zTow sp n due)) due = zTow sp (zIt sp due (k + 1) n) due
    rw [ih]
theorem zIt_r {sp n due : Int32} (hs0 : 0 ≤ sp) (hs : sp ≤ 100) (hn : zR12 n) (hd : zR12 due) : ∀ k, zR12 (zIt sp due k n) := by
  intro k
  induction k with
  | zero => exact hn
  | succ k ih => exact zTow_r hs0 hs ih hd
/-- how far what is let out is from the rung -/
def zGap (p r n : Int32) : Int32 := if p + n ≤ r then r - (p + n) else (p + n) - r
theorem zGap_i {p r n : Int32} (hp : zp p) (hr : zp r) (hn : zR12 n) : (p + n).toInt = p.toInt + n.toInt ∧ ((p + n ≤ r → (r - (p + n)).toInt = r.toInt - p.toInt - n.toInt) ∧ (¬ p + n ≤ r → ((p + n) - r).toInt = p.toInt + n.toInt - r.toInt)) := by
  have h1 := zp_i hp
  have h2 := zp_i hr
  have e : (p + n).toInt = p.toInt + n.toInt := fb_addI (by omega) (by omega)
  refine ⟨e, fun _ => ?_, fun _ => ?_⟩
  · rw [fb_subI (by omega) (by omega), e]; omega
  · rw [fb_subI (by omega) (by omega), e]
theorem zGap_n {p r n : Int32} (hp : zp p) (hr : zp r) (hn : zR12 n) : (zGap p r n).toInt = (p.toInt + n.toInt - r.toInt).natAbs := by
  obtain ⟨e, h1, h2⟩ := zGap_i hp hr hn
  unfold zGap
  by_cases q : p + n ≤ r
  · rw [if_pos q, h1 q]
    have := (fa_le _ _).mp q
    omega
  · rw [if_neg q, h2 q]
    have : ¬ (p + n).toInt ≤ r.toInt := fun x => q ((fa_le _ _).mpr x)
    omega
theorem zGap_0 {p r n : Int32} (hp : zp p) (hr : zp r) (hn : zR12 n) : zGap p r n = 0 ↔ p + n = r := by
  have h1 := zGap_n hp hr hn
  have h2 := (zGap_i hp hr hn).1
  have e0 : (0 : Int32).toInt = 0 := rfl
  rw [fa_eq, fa_eq (p + n), h1, h2]
  omega
theorem zGap_p {p r n : Int32} (hp : zp p) (hr : zp r) (hn : zR12 n) : 0 ≤ zGap p r n := by
  have h1 := zGap_n hp hr hn
  rw [fa_le, h1]
  exact Int.natCast_nonneg _
theorem zGap_m {sp p r n : Int32} (hs0 : 0 ≤ sp) (hs : sp ≤ 100) (hp : zp p) (hr : zp r) (hn : zR12 n) : zGap p r (zTow sp n (r - p)) ≤ zGap p r n := by
  obtain ⟨ed, hd⟩ := zDue_i hr hp
  obtain ⟨mv, h1, h2⟩ := zTow_i hs0 hs hn hd
  have h3 := zTow_r hs0 hs hn hd
  rw [fa_le, zGap_n hp hr hn, zGap_n hp hr h3, h1]
  omega
theorem zTow_st {sp p r n : Int32} (hs0 : 0 ≤ sp) (hs : sp ≤ 100) (hp : zp p) (hr : zp r) (hn : zR12 n) (h : p + n = r) : p + zTow sp n (r - p) = r := by
  have h9 := zGap_m hs0 hs hp hr hn
  have h3 := zTow_r hs0 hs hn (zDue_i hr hp).2
  have h4 := zGap_p hp hr h3
  rw [(zGap_0 hp hr hn).mpr h] at h9
  exact (zGap_0 hp hr h3).mp (Int32.le_antisymm h9 h4)
theorem zIt_st {sp p r n : Int32} (hs0 : 0 ≤ sp) (hs : sp ≤ 100) (hp : zp p) (hr : zp r) (hn : zR12 n) {j : Nat} (h : p + zIt sp (r - p) j n = r) : ∀ m, p + zIt sp (r - p) (j + m) n = r := by
  intro m
  induction m with
  | zero => exact h
  | succ m ih => exact zTow_st hs0 hs hp hr (zIt_r hs0 hs hn (zDue_i hr hp).2 _) ih
theorem zFf_c (sp p r : Int32) : ∀ f k n, (zFf sp p r f k n = -1 ∧ ∀ j, j < f → ¬ p + zIt sp (r - p) j n = r) ∨ ∃ j, j < f ∧ zFf sp p r f k n = nI (k + j) ∧ p + zIt sp (r - p) j n = r ∧ ∀ i, i < j → ¬ p + zIt sp (r - p) i n = r := by
  intro f
  induction f with
  | zero => exact fun k n => Or.inl ⟨rfl, fun j h => absurd h (Nat.not_lt_zero _)⟩
  | succ f ih =>
    intro k n
    by_cases q : p + n = r
    · refine Or.inr ⟨0, Nat.succ_pos _, if_pos q, q, fun i h => absurd h (Nat.not_lt_zero _)⟩
    · have e : zFf sp p r (f + 1) k n = zFf sp p r f (k + 1) (zTow sp n (r - p)) := if_neg q
      rcases ih (k + 1) (zTow sp n (r - p)) with ⟨h1, h2⟩ | ⟨j, h1, h2, h3, h4⟩
      · refine Or.inl ⟨e.trans h1, fun j hj => ?_⟩
        cases j with
        | zero => exact q
        | succ j => rw [← zIt_s]; exact h2 j (by omega)
      · refine Or.inr ⟨j + 1, by omega, by rw [e, h2, show k + 1 + j = k + (j + 1) by omega], by rw [← zIt_s]; exact h3, fun i hi => ?_⟩
        cases i with
        | zero => exact q
        | succ i => rw [← zIt_s]; exact h4 i (by omega)
/-- the same pitch sung again and again: the rung stays, the nudge goes on -/
def zNg (c : C5) (i : Nat) (p : Int32) (z : S7) : Nat → S7
  | 0 => z
  | k + 1 => zSg c i p (zNg c i p z k)
theorem zNext_idem (c : C5) (r p : Int32) : zNext c (zNext c r p) p = zNext c r p := by
  by_cases q : ¬ r = -1 ∧ zAbs (p - r) ≤ c.2.2.2.1
  · rw [← zNext_k q, ← zNext_k q]
  · rw [← zNext_n q]
    by_cases q2 : ¬ zNear c p = -1 ∧ zAbs (p - zNear c p) ≤ c.2.2.2.1
    · exact (zNext_k q2).symm
    · exact (zNext_n q2).symm
theorem zSg_1 (c : C5) (i : Nat) (p : Int32) (z : S7) : (zSg c i p z).1 i = zR c i p z := pk_us
theorem zSg_2 (c : C5) (i : Nat) (p : Int32) (z : S7) : (zSg c i p z).2.1 i = zG c i p z := pk_us
theorem zSg_r (c : C5) (i : Nat) (p : Int32) (z : S7) : zR c i p (zSg c i p z) = zR c i p z := by
  show zNext c ((zSg c i p z).1 i) p = _
  rw [zSg_1]
  exact zNext_idem c _ p
theorem zSg_g (c : C5) (i : Nat) (p : Int32) (z : S7) : zG c i p (zSg c i p z) = zTow c.2.2.1 (zG c i p z) (zR c i p z - p) := by
  show zNud c ((zSg c i p z).1 i) ((zSg c i p z).2.1 i) (zR c i p (zSg c i p z)) p = _
  rw [zSg_r, zSg_1, zSg_2]
  exact (zNud_n (fun q => q.1.2 rfl)).symm
theorem zNg_rg (c : C5) (i : Nat) (p : Int32) (z : S7) : ∀ k, zR c i p (zNg c i p z k) = zR c i p z ∧ zG c i p (zNg c i p z k) = zIt c.2.2.1 (zR c i p z - p) k (zG c i p z) := by
  intro k
  induction k with
  | zero => exact ⟨rfl, rfl⟩
  | succ k ih =>
    refine ⟨(zSg_r c i p _).trans ih.1, ?_⟩
    show zG c i p (zSg c i p (zNg c i p z k)) = zTow c.2.2.1 (zIt c.2.2.1 (zR c i p z - p) k (zG c i p z)) (zR c i p z - p)
    rw [zSg_g, ih.1, ih.2]
