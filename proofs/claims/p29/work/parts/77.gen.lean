/-! ===== a minute passes: what is held against what was, in numbers ===== -/
theorem mm_set {σ : qσ} {X : qM} {r : Nat} (h : 112 < r) (e : qE) : qset (mm σ X) r e = mm σ (qset X r e) := by
  funext k
  by_cases hk : k = r
  · subst hk
    simp [qset, mm]
    intro q; omega
  · simp [qset, mm, hk]
def absI (x : Int32) : Int32 := if 0 ≤ x then x else 0 - x
def farI (a b : Int32) : Int32 := absI (a / 5 - b / 5) + absI ((a - a / 5 * 5) - (b - b / 5 * 5))
set_option maxRecDepth 100000 in
theorem farI_all : ∀ a, a < 25 → ∀ b, b < 25 → farI (nI a) (nI b) = nI (farN b a) := by decide +kernel
/-- what must hold of a craft behind a minute: c0 before, c behind it -/
abbrev PC (c0 c : aC) : Prop :=
  (c.ch ≤ c.bt ∧ c.bt ≤ 200 ∧ c0.ch ≤ 200 ∧ c.st ≤ 2 ∧ c0.st ≤ 2 ∧ c.ce < 25 ∧ c0.ce < 25) ∧ (farN c0.ce c.ce ≤ 1) ∧ (farN c0.ce c.ce = 1 → c0.st = 1) ∧
  (c0.st = 0 → c.st = 0 → c.ch = if c0.ch + 3 < c.bt then c0.ch + 3 else c.bt) ∧ (c0.st = 0 → c.st = 1 → c.ch + 2 = c0.ch) ∧ (c0.st = 0 → c.st ≠ 2) ∧
  (c0.st = 1 → farN c0.ce c.ce = 1 → c.ch + 1 ≤ c0.ch ∧ c0.ch ≤ c.ch + 7) ∧ (c0.st = 1 → farN c0.ce c.ce = 0 → c.st ≠ 2 → c.ch = c0.ch) ∧ (c0.st = 2 → c.st = 2 ∧ c.ch = 0)
theorem chA_ne {n : Nat} {c : aC} (h : c.st ≠ 0 ∨ c.la = n) : chA n c = c := by
  unfold chA
  rw [if_neg (by omega)]
theorem chA_at {n : Nat} {c : aC} (h : c.st = 0 ∧ c.la ≠ n) : chA n c = c.wc (if c.ch + 3 < c.bt then c.ch + 3 else c.bt) := if_pos h
theorem PC_of {fc n i : Nat} {F F' : Nat → aF} {c0 c : aC} (h0 : CI fc n n i F c0) (h1 : CI fc (n + 1) (n + 1) i F' c) (h : ∃ c1, HC (n + 1) c0 c1 ∧ c = chA (n + 1) c1) : PC c0 c := by
  obtain ⟨c1, h2, h3⟩ := h
  have hla := h0.la
  have hbt0 := h0.bt
  have hch0 := h0.ch
  have hd0 := h0.down
  have hst := chA_fl (n := n + 1) (c := c1)
  refine ⟨⟨h1.ch, h1.bt.2, by omega, h1.st, h0.st, h1.ce, h0.ce⟩, ?_⟩
  obtain ⟨⟨-, -, hbt, -⟩, h4⟩ := h2
  have f0 := far0 h0.ce h1.ce
  rcases h4 with ⟨e1, e2, e3, e4⟩ | ⟨e1, e2, e3, e4⟩ | ⟨e1, e2, e3, e4, e5, e6, e7⟩ | ⟨e1, e2, e3, e4, e5⟩ | ⟨e1, e2, e3, e4⟩
  · by_cases q : c1.st = 0
    · rw [chA_at ⟨q, by omega⟩] at h3
      have a1 : c.st = c1.st := by rw [h3]
      have a2 : c.ce = c1.ce := by rw [h3]
      have a3 : c.ch = if c1.ch + 3 < c1.bt then c1.ch + 3 else c1.bt := by rw [h3]
      have a4 : c.bt = c1.bt := by rw [h3]
      have a5 : farN c0.ce c.ce = 0 := f0.mpr (by omega)
      refine ⟨by omega, by omega, fun _ _ => ?_, by omega, by omega, by omega, by omega, by omega⟩
      rw [a3, a4, e3]
    · rw [chA_ne (Or.inl q)] at h3
      subst h3
      have a5 : farN c0.ce c.ce = 0 := f0.mpr (by omega)
      refine ⟨by omega, by omega, by omega, by omega, by omega, by omega, by omega, by omega⟩
  · rw [chA_ne (Or.inl (by omega))] at h3
    subst h3
    have a5 : farN c0.ce c.ce = 0 := f0.mpr (by omega)
    refine ⟨by omega, by omega, by omega, by omega, by omega, by omega, by omega, by omega⟩
  · rw [chA_ne (by omega)] at h3
    subst h3
    have a5 : farN c0.ce c.ce ≠ 0 := fun q => e4 (f0.mp q).symm
    refine ⟨by omega, by omega, by omega, by omega, by omega, by omega, by omega, by omega⟩
  · rw [chA_ne (by omega)] at h3
    subst h3
    have a5 : farN c0.ce c.ce = 0 := f0.mpr (by omega)
    refine ⟨by omega, by omega, by omega, by omega, by omega, by omega, by omega, by omega⟩
  · rw [chA_ne (Or.inl (by omega))] at h3
    subst h3
    have a5 : farN c0.ce c.ce = 0 := f0.mpr (by omega)
    refine ⟨by omega, by omega, by omega, by omega, by omega, by omega, by omega, by omega⟩
theorem nI_m2 {a b : Nat} (h : a + 2 = b) : nI b - 2 = nI a := by
  have := nI_sub (a := b) (b := 2) (by omega)
  rw [show b - 2 = a by omega] at this
  exact this
theorem nI_m1 {a b : Nat} (h : a + 1 ≤ b) (hb : b < 2 ^ 20) : ¬ nI b - 1 < nI a := by
  have := nI_sub (a := b) (b := 1) (by omega)
  rw [show nI b - 1 = nI (b - 1) from this]
  exact nI_nlt (by omega) (by omega)
set_option maxRecDepth 100000 in
theorem nI_m7s : ∀ b, b < 8 → (nI b - 7) ≤ 0 := by decide +kernel
theorem nI_m7 {a b : Nat} (h : b ≤ a + 7) (ha : a < 2 ^ 20) : ¬ nI a < nI b - 7 := by
  by_cases q : 7 ≤ b
  · have := nI_sub (a := b) (b := 7) q
    rw [show nI b - 7 = nI (b - 7) from this]
    exact nI_nlt (by omega) (by omega)
  · have h1 := nI_m7s b (by omega)
    have h2 := nI_pos' (n := a) (by omega)
    exact fun h3 => by
      have := Int32.lt_of_lt_of_le h3 h1
      exact nI_pos (by omega) this
