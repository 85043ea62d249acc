/-! sums; frames within the scales of a mode -/
def zSu (f : Nat → Nat) : Nat → Nat
  | 0 => 0
  | k + 1 => zSu f k + f k
theorem zSu_add (f g : Nat → Nat) : ∀ n, zSu (fun k => f k + g k) n = zSu f n + zSu g n := by
  intro n
  induction n with
  | zero => rfl
  | succ n ih =>
    show zSu (fun k => f k + g k) n + (f n + g n) = (zSu f n + f n) + (zSu g n + g n)
    rw [ih]; omega
theorem zSu_congr {f g : Nat → Nat} : ∀ n, (∀ k, k < n → f k = g k) → zSu f n = zSu g n := by
  intro n
  induction n with
  | zero => exact fun _ => rfl
  | succ n ih =>
    intro h
    show zSu f n + f n = zSu g n + g n
    rw [ih (fun k hk => h k (by omega)), h n (by omega)]
theorem zSu_le {f g : Nat → Nat} : ∀ n, (∀ k, k < n → f k ≤ g k) → zSu f n ≤ zSu g n := by
  intro n
  induction n with
  | zero => exact fun _ => Nat.le_refl _
  | succ n ih =>
    intro h
    have h1 := ih (fun k hk => h k (by omega))
    have h2 := h n (by omega)
    show zSu f n + f n ≤ zSu g n + g n
    omega
theorem zSu_mem {f : Nat → Nat} : ∀ n, ∀ k, k < n → f k ≤ zSu f n := by
  intro n
  induction n with
  | zero => exact fun k h => absurd h (Nat.not_lt_zero _)
  | succ n ih =>
    intro k h
    show f k ≤ zSu f n + f n
    rcases Nat.lt_or_ge k n with q | q
    · have := ih k q; omega
    · rw [show k = n by omega]; omega
theorem zSu_inc {f g : Nat → Nat} {i : Nat} (h1 : g i = f i + 1) (h2 : ∀ j, j ≠ i → g j = f j) : ∀ n, i < n → zSu g n = zSu f n + 1 := by
  intro n
  induction n with
  | zero => exact fun h => absurd h (Nat.not_lt_zero _)
  | succ n ih =>
    intro h
    show zSu g n + g n = zSu f n + f n + 1
    rcases Nat.lt_or_ge i n with q | q
    · rw [ih q, h2 n (by omega)]; omega
    · have e : i = n := by omega
      subst e
      rw [zSu_congr (f := g) (g := f) i (fun k hk => h2 k (by omega)), h1]; omega
def zNW (md ky : Nat) (su : Nat → Nat) (n : Nat) : Nat := zSu (fun k => if zSt md ((k + 12 - ky) % 12) < 0 then 0 else su k) n
theorem zWn_N {md ky : Nat} {g : Nat → Int32} {su : Nat → Nat} (h : ∀ k, k < 12 → g k = nI (su k)) : ∀ n, n ≤ 12 → zWn md ky g n = nI (zNW md ky su n) := by
  intro n
  induction n with
  | zero => exact fun _ => nI_0.symm
  | succ n ih =>
    intro hn
    by_cases q : zSt md ((n + 12 - ky) % 12) < 0
    · have e : zNW md ky su (n + 1) = zNW md ky su n := by
        show zNW md ky su n + (if _ then 0 else su n) = _
        rw [if_pos q, Nat.add_zero]
      rw [zWn_0 q, ih (by omega), e]
    · have e : zNW md ky su (n + 1) = zNW md ky su n + su n := by
        show zNW md ky su n + (if _ then 0 else su n) = _
        rw [if_neg q]
      rw [zWn_1 q, ih (by omega), h n (by omega), nI_add, e]
theorem zW_N {md ky : Nat} {g : Nat → Int32} {su : Nat → Nat} (h : ∀ k, k < 12 → g k = nI (su k)) : zW md ky g = nI (zNW md ky su 12) := zWn_N h 12 (Nat.le_refl _)
def zC7 (md : Nat) : Nat := if md = 7 then 12 else 7
theorem zCnt : ∀ md, md < 8 → ∀ n, n < 12 → zSu (fun ky => if zSt md ((n + 12 - ky) % 12) < 0 then 0 else 1) 12 = zC7 md := by decide +kernel
theorem zSu_w (md n x : Nat) : ∀ m, zSu (fun ky => if zSt md ((n + 12 - ky) % 12) < 0 then 0 else x) m = x * zSu (fun ky => if zSt md ((n + 12 - ky) % 12) < 0 then 0 else 1) m := by
  intro m
  induction m with
  | zero => exact (Nat.mul_zero x).symm
  | succ m ih =>
    show zSu (fun ky => if zSt md ((n + 12 - ky) % 12) < 0 then 0 else x) m + (if zSt md ((n + 12 - m) % 12) < 0 then 0 else x) = x * (zSu (fun ky => if zSt md ((n + 12 - ky) % 12) < 0 then 0 else 1) m + (if zSt md ((n + 12 - m) % 12) < 0 then 0 else 1))
    rw [ih, Nat.mul_add]
    by_cases q : zSt md ((n + 12 - m) % 12) < 0
    · rw [if_pos q, if_pos q, Nat.mul_zero]
    · rw [if_neg q, if_neg q, Nat.mul_one]
theorem zTotN {md : Nat} (hm : md < 8) (su : Nat → Nat) : ∀ n, n ≤ 12 → zSu (fun ky => zNW md ky su n) 12 = zC7 md * zSu su n := by
  intro n
  induction n with
  | zero => exact fun _ => (Nat.mul_zero (zC7 md)).symm
  | succ n ih =>
    intro hn
    show zSu (fun ky => zNW md ky su n + (if zSt md ((n + 12 - ky) % 12) < 0 then 0 else su n)) 12 = zC7 md * (zSu su n + su n)
    rw [zSu_add (fun ky => zNW md ky su n) (fun ky => if zSt md ((n + 12 - ky) % 12) < 0 then 0 else su n), ih (by omega), zSu_w, zCnt md hm n (by omega), Nat.mul_add, Nat.mul_comm (su n)]
theorem zNW_le (md ky : Nat) (su : Nat → Nat) : zNW md ky su 12 ≤ zSu su 12 := by
  refine zSu_le 12 (fun k hk => ?_)
  show (if _ then 0 else su k) ≤ su k
  split
  · exact Nat.zero_le _
  · exact Nat.le_refl _
theorem zNW_7 (ky : Nat) (su : Nat → Nat) : zNW 7 ky su 12 = zSu su 12 := by
  refine zSu_congr 12 (fun k hk => ?_)
  show (if _ then 0 else su k) = su k
  rw [if_neg]
  rw [zSt_7 _ (Nat.mod_lt _ (by decide))]
  have := Nat.mod_lt (k + 12 - ky) (show 0 < 12 by decide)
  exact nI_pos (by omega)
theorem zBk_c {md : Nat} {g : Nat → Int32} {su : Nat → Nat} (h : ∀ k, k < 12 → g k = nI (su k)) (hb : zSu su 12 < 2 ^ 31) : ∀ n, n ≤ 11 → zBkn md g n ≤ n ∧ (∀ k, k ≤ n → zNW md k su 12 ≤ zNW md (zBkn md g n) su 12) ∧ ∀ k, k < zBkn md g n → zNW md k su 12 < zNW md (zBkn md g n) su 12 := by
  intro n
  induction n with
  | zero => exact fun _ => ⟨Nat.le_refl _, fun k hk => by rw [Nat.le_zero.mp hk]; exact Nat.le_refl _, fun k hk => absurd hk (Nat.not_lt_zero _)⟩
  | succ n ih =>
    intro hn
    obtain ⟨h1, h2, h3⟩ := ih (by omega)
    have b1 := zNW_le md (zBkn md g n) su
    have b2 := zNW_le md (n + 1) su
    have key : zW md (zBkn md g n) g < zW md (n + 1) g ↔ zNW md (zBkn md g n) su 12 < zNW md (n + 1) su 12 := by
      rw [zW_N h, zW_N h]
      exact nI_ltI (by omega) (by omega)
    by_cases q : zW md (zBkn md g n) g < zW md (n + 1) g
    · have e : zBkn md g (n + 1) = n + 1 := if_pos q
      have q2 := key.mp q
      rw [e]
      refine ⟨Nat.le_refl _, fun k hk => ?_, fun k hk => ?_⟩
      · rcases Nat.lt_or_ge k (n + 1) with r | r
        · have := h2 k (by omega); omega
        · rw [show k = n + 1 by omega]; exact Nat.le_refl _
      · have := h2 k (by omega); omega
    · have e : zBkn md g (n + 1) = zBkn md g n := if_neg q
      have q2 : ¬ zNW md (zBkn md g n) su 12 < zNW md (n + 1) su 12 := fun x => q (key.mpr x)
      rw [e]
      refine ⟨by omega, fun k hk => ?_, h3⟩
      rcases Nat.lt_or_ge k (n + 1) with r | r
      · exact h2 k (by omega)
      · rw [show k = n + 1 by omega]; omega
