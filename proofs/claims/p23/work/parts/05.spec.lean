/-! the pure words: what both sides compute -/
theorem fa_lt (a b : Int32) : a < b ↔ a.toInt < b.toInt := Int32.lt_iff_toInt_lt
theorem fa_le (a b : Int32) : a ≤ b ↔ a.toInt ≤ b.toInt := Int32.le_iff_toInt_le
theorem fa_eq (a b : Int32) : a = b ↔ a.toInt = b.toInt := Int32.toInt_inj.symm
def zb (P : Prop) [Decidable P] : Int32 := if P then 1 else 0
theorem zb_1 {P : Prop} [Decidable P] (h : P) : zb P = 1 := if_pos h
theorem zb_0 {P : Prop} [Decidable P] (h : ¬ P) : zb P = 0 := if_neg h
theorem zb_f {P : Prop} [Decidable P] (h : zb P = 0) : ¬ P := fun q => by rw [zb_1 q] at h; exact absurd h (by decide)
theorem zb_t {P : Prop} [Decidable P] (h : ¬ zb P = 0) : P := by
  by_cases q : P
  · exact q
  · exact absurd (zb_0 q) h
abbrev S7 : Type := (Nat → Int32) × (Nat → Int32) × (Nat → Int32) × (Nat → Int32) × (Nat → Int32) × (Nat → Int32) × (Nat → Int32)
abbrev C5 : Type := Nat × Nat × Int32 × Int32 × Int32
/-- the semitones of the step i of the mode md, from its key on -/
def zMaj (n : Nat) : Nat := n / 7 * 12 + (if n % 7 < 3 then 2 * (n % 7) else 2 * (n % 7) - 1)
def zT (md i : Nat) : Nat := if md = 7 then i else zMaj (md + i) - zMaj md
def zN (md : Nat) : Nat := if md = 7 then 12 else 7
def zStn (md k : Nat) : Nat → Int32
  | 0 => -1
  | i + 1 => if zT md i = k then nI i else zStn md k i
def zSt (md k : Nat) : Int32 := zStn md k (zN md)
def zST : Nat → Nat
  | 0 => 0
  | 1 => 2
  | 2 => 4
  | 3 => 5
  | 4 => 7
  | 5 => 9
  | _ => 11
def zFM (x : Int32) (d : Nat) : Int32 := nI (x.toInt % d).toNat
theorem zSt_7 : ∀ k, k < 12 → zSt 7 k = nI k := by decide +kernel
theorem zSt_in : ∀ md, md < 7 → ∀ i, i < 7 → zSt md (zT md i) = nI i := by decide +kernel
theorem zSt_out : ∀ md, md < 7 → ∀ k, k < 12 → (∀ i, i < 7 → ¬ zT md i = k) → zSt md k = -1 := by decide +kernel
theorem zSt_neg : ∀ md, md < 8 → ∀ k, k < 12 → (zSt md k < 0 ↔ zSt md k = -1) := by decide +kernel
theorem zST_d : ∀ md, md < 7 → ∀ i, i < 7 → zFM (nI (zST ((md + i) % 7)) - nI (zST (md % 7))) 12 = nI (zT md i) := by decide +kernel
theorem zT_lt : ∀ md, md < 7 → ∀ i, i < 7 → zT md i < 12 := by decide +kernel
/-- which step of the scale's mode a pitch is; -1: no rung -/
def zStep (c : C5) (p : Int32) : Int32 := if 0 ≤ p ∧ p ≤ 12000 ∧ p - p / 100 * 100 = 0 then zSt c.2.1 ((p.toNatClampNeg / 100 + 12 - c.1) % 12) else -1
def okC (c : C5) : Prop := c.1 < 12 ∧ c.2.1 < 8 ∧ 0 ≤ c.2.2.1
theorem zStep_neg {c : C5} (hc : okC c) (p : Int32) : zStep c p < 0 ↔ zStep c p = -1 := by
  unfold zStep
  by_cases h : 0 ≤ p ∧ p ≤ 12000 ∧ p - p / 100 * 100 = 0
  · rw [if_pos h]; exact zSt_neg _ hc.2.1 _ (Nat.mod_lt _ (by decide))
  · rw [if_neg h]; decide
def zFar (r p : Int32) : Int32 := if r < p then p - r else r - p
def zNearN (c : C5) (p : Int32) : Nat → Int32
  | 0 => -1
  | k + 1 => if ¬ zStep c (nI (100 * k)) < 0 ∧ (zNearN c p k < 0 ∨ zFar (nI (100 * k)) p < zFar (zNearN c p k) p) then nI (100 * k) else zNearN c p k
def zNear (c : C5) (p : Int32) : Int32 := zNearN c p 121
def zAbs (x : Int32) : Int32 := if 0 ≤ x then x else 0 - x
def zNext (c : C5) (r p : Int32) : Int32 := if ¬ r = -1 ∧ zAbs (p - r) ≤ c.2.2.2.1 then r else zNear c p
def zTow (sp n due : Int32) : Int32 := n + (if (due - n) * sp / 100 = 0 ∧ ¬ sp = 0 then (if 0 < due - n then 1 else if due - n < 0 then -1 else 0) else (due - n) * sp / 100)
abbrev zChg (r0 r : Int32) : Prop := ¬ r0 = -1 ∧ ¬ r0 = r
abbrev zLeap (c : C5) (r0 r : Int32) : Prop := zChg r0 r ∧ c.2.2.2.2 < zAbs (r - r0)
def zNud (c : C5) (r0 n0 r p : Int32) : Int32 := if zLeap c r0 r then 0 else zTow c.2.2.1 n0 (r - p)
def zB (b : Prop) [Decidable b] (f : Nat → Int32) (i : Nat) : Nat → Int32 := if b then upd f i (f i + 1) else f
def zSem (p : Int32) : Nat := (p.toNatClampNeg + 50) / 100 % 12
/-- a frame is sung: the rung, the nudge; the state behind it; what is let out -/
def zR (c : C5) (i : Nat) (p : Int32) (z : S7) : Int32 := zNext c (z.1 i) p
def zG (c : C5) (i : Nat) (p : Int32) (z : S7) : Int32 := zNud c (z.1 i) (z.2.1 i) (zR c i p z) p
def zOut (c : C5) (i : Nat) (p : Int32) (z : S7) : Int32 := p + zG c i p z
def zSg (c : C5) (i : Nat) (p : Int32) (z : S7) : S7 := (upd z.1 i (zR c i p z), upd z.2.1 i (zG c i p z), upd z.2.2.1 i (z.2.2.1 i + 1), zB (zChg (z.1 i) (zR c i p z)) z.2.2.2.1 i, zB (zLeap c (z.1 i) (zR c i p z)) z.2.2.2.2.1 i, zB (¬ zStep c (zOut c i p z) = -1) z.2.2.2.2.2.1 i, upd z.2.2.2.2.2.2 (zSem p) (z.2.2.2.2.2.2 (zSem p) + 1))
/-- the pitch of the frame k of a slide of f frames -/
def zPit (a b : Int32) (f k : Nat) : Int32 := nI ((a.toNatClampNeg * (f - 1 - k) + b.toNatClampNeg * k) / (f - 1))
def zSl (c : C5) (i : Nat) (a b : Int32) (f : Nat) (z : S7) : Nat → S7
  | 0 => z
  | k + 1 => zSg c i (zPit a b f k) (zSl c i a b f z k)
def zWn (md ky : Nat) (g : Nat → Int32) : Nat → Int32
  | 0 => 0
  | k + 1 => zWn md ky g k + (if zSt md ((k + 12 - ky) % 12) < 0 then 0 else g k)
def zW (md ky : Nat) (g : Nat → Int32) : Int32 := zWn md ky g 12
def zBkn (md : Nat) (g : Nat → Int32) : Nat → Nat
  | 0 => 0
  | k + 1 => if zW md (zBkn md g k) g < zW md (k + 1) g then k + 1 else zBkn md g k
def zBk (md : Nat) (g : Nat → Int32) : Nat := zBkn md g 11
def zRcn (c : C5) : Nat → Int32
  | 0 => 0
  | k + 1 => zRcn c k + (if zStep c (nI (100 * k)) < 0 then 0 else 1)
def zRc (c : C5) : Int32 := zRcn c 121
def zRgn (c : C5) (num : Int32) : Nat → Int32
  | 0 => -1
  | k + 1 => if ¬ zStep c (nI (100 * k)) < 0 ∧ num = zRcn c k then nI (100 * k) else zRgn c num k
def zRg (c : C5) (num : Int32) : Int32 := zRgn c num 121
abbrev zOct (a b : Int32) : Prop := ¬ a = -1 ∧ ¬ b = -1 ∧ (a - b) - (a - b) / 1200 * 1200 = 0
def zIO (r : Nat → Int32) : Int32 := 0 + zb (zOct (r 0) (r 1)) + zb (zOct (r 0) (r 2)) + zb (zOct (r 0) (r 3)) + zb (zOct (r 1) (r 2)) + zb (zOct (r 1) (r 3)) + zb (zOct (r 2) (r 3))
def zFf (sp p r : Int32) : Nat → Nat → Int32 → Int32
  | 0, _, _ => -1
  | f + 1, k, n => if p + n = r then nI k else zFf sp p r f (k + 1) (zTow sp n (r - p))
def zFR (c : C5) (i : Nat) (p : Int32) (z : S7) : Int32 := zFf c.2.2.1 p (zR c i p z) 999 1 (zG c i p z)
def zLn (c : C5) (r : Nat → Int32) : Nat → (Nat → Int32) × Int32
  | 0 => (r, 0)
  | k + 1 => if ¬ (zLn c r k).1 k = -1 ∧ zStep c ((zLn c r k).1 k) = -1 then (upd (zLn c r k).1 k (-1), (zLn c r k).2 + 1) else zLn c r k
def zL (c : C5) (r : Nat → Int32) : (Nat → Int32) × Int32 := zLn c r 4
def okZ (z : S7) : Prop := ∀ i : Nat, z.1 i = -1 ∨ (0 ≤ z.1 i ∧ z.1 i ≤ 12000)
abbrev zw (w : Int32) : Prop := 0 ≤ w ∧ w ≤ 3
abbrev zp (p : Int32) : Prop := 0 ≤ p ∧ p ≤ 12000
theorem zw_in {w : Int32} (h : zw w) : vp_in w 4 := by
  refine vp_in_iff.mpr ⟨?_, ?_⟩
  · have := (fa_le _ _).mp h.1; simpa using this
  · have := (fa_le _ _).mp h.2; simp at this; omega
theorem zi_in {k n : Nat} (h : k < n) (hn : n < 2 ^ 31) : vp_in (nI k) n := vp_in_nI h hn
theorem z_inc (i k : Nat) : nI i + Int32.ofInt (k : Int) = nI (i + k) := by
  rw [← nI_add]; rfl
