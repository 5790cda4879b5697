/-! ===== doubles from 0 to 1 ===== -/
/-- a finite double from 0 to k -/
def Bd (k : Nat) (a : UInt64) : Prop := ∃ c q, FP.Core.val64 a = .fin false c q ∧ FP.Core.zmag FP.Core.b64 (.fin false c q) ≤ k * FP.Core.one64
theorem Bd.nn {k : Nat} {a : UInt64} (h : Bd k a) : FP.Core.val64 a ≠ .nan := by
  obtain ⟨c, q, h, -⟩ := h
  rw [h]; exact fun e => by cases e
theorem n64_of {a : UInt64} (h : FP.Core.val64 a ≠ .nan) : vf_n64 a := by
  have := (FP.Core.ne_nan a).mp h
  unfold vf_n64
  rw [UInt64.le_iff_toNat_le, FP.Core.mask_toNat]
  exact this
theorem int_bd {x : Int32} {k : Nat} (hx : x = nI k) (hk : k < 2 ^ 31) : Bd k (FP.i2d x) ∧ FP.Core.zmag FP.Core.b64 (FP.Core.val64 (FP.i2d x)) = k * FP.Core.one64 := by
  subst hx
  have hd := FP.Core.i2d_int (nI k)
  have hz := FP.Core.DInt_zval hd
  rw [nI_toInt hk] at hz
  have hs : FP.Core.sgn (FP.Core.val64 (FP.i2d (nI k))) = false := by
    rw [show FP.i2d (nI k) = FP.Core.i2d (nI k) from rfl, FP.Core.val64_i2d, nI_toInt hk]
    show FP.Core.sgn (FP.Core.roundRatio FP.Core.b64 (decide ((k : Int) < 0)) _ _ _) = false
    rw [FP.Core.sgn_roundRatio]
    exact decide_eq_false (by omega)
  unfold FP.Core.zval at hz
  rw [show FP.Core.i2d (nI k) = FP.i2d (nI k) from rfl] at hz
  rw [hs] at hz
  have hz2 : FP.Core.zmag FP.Core.b64 (FP.Core.val64 (FP.i2d (nI k))) = k * FP.Core.one64 := by
    have : ((FP.Core.zmag FP.Core.b64 (FP.Core.val64 (FP.i2d (nI k))) : Nat) : Int) = (k : Int) * (FP.Core.one64 : Int) := hz
    rw [← Int.natCast_mul] at this
    exact Int.ofNat_inj.mp this
  refine ⟨?_, hz2⟩
  have hn := FP.Core.DInt_ne_nan hd
  unfold FP.Core.DInt at hd
  rw [show FP.Core.i2d (nI k) = FP.i2d (nI k) from rfl] at hn hd
  cases e : FP.Core.val64 (FP.i2d (nI k)) with
  | nan => exact absurd e hn
  | inf s => rw [e] at hd; exact hd.elim
  | fin s c q =>
    rw [e] at hs hz2
    have : s = false := hs
    subst this
    exact ⟨c, q, e, Nat.le_of_eq hz2⟩
/-- what rounds is from 0 to k -/
theorem rr_bd {k A B : Nat} {e e0 : Int} (hk : k < 2 ^ 20) (hB : 0 < B) (h0 : e0 ≤ FP.Core.b64.qmin) (h0e : e0 ≤ e) (h : FP.Core.inUnits A e e0 ≤ k * FP.Core.one64 * 2 ^ (FP.Core.b64.qmin - e0).toNat * B) :
    ∃ c q, FP.Core.roundRatio FP.Core.b64 false A B e = .fin false c q ∧ FP.Core.zmag FP.Core.b64 (.fin false c q) ≤ k * FP.Core.one64 := by
  obtain ⟨⟨vc, vq, hv, -⟩, hz⟩ := int_bd (x := nI k) rfl (show k < 2 ^ 31 by omega)
  have hfit := FP.Core.val64_fits (FP.i2d (nI k))
  rw [hv] at hz hfit
  have hle := FP.Core.zmag_roundRatio_le FP.Core.good_b64 (s := false) hB hfit (fun e => by cases e) h0 h0e (by rw [hz]; exact h)
  have hlt := FP.Core.zmag_lt_top FP.Core.good_b64 hfit
  rcases FP.Core.roundRatio_cases FP.Core.b64 false A B e with ⟨c, q, hR⟩ | hR
  · rw [hR] at hle ⊢
    exact ⟨c, q, rfl, by rw [← hz]; exact hle⟩
  · rw [hR] at hle
    exact absurd hlt (Nat.not_lt.mpr hle)
theorem add_bd {k j : Nat} {a b : UInt64} (ha : Bd k a) (hb : Bd j b) (hk : k + j < 2 ^ 20) : Bd (k + j) (FP.dadd a b) := by
  obtain ⟨c, q, h1, h2⟩ := ha
  obtain ⟨d, r, h3, h4⟩ := hb
  have f1 := FP.Core.val64_fits a
  have f2 := FP.Core.val64_fits b
  rw [h1] at f1
  rw [h3] at f2
  obtain ⟨sg, n, e, s1, s2, s3⟩ := FP.Core.sum_units f1 f2
  have hv : FP.Core.val64 (FP.dadd a b) = FP.Core.roundRatio FP.Core.b64 sg n 1 e := by
    rw [show FP.dadd a b = FP.Core.dadd a b from rfl, FP.Core.val64_dadd, h1, h3, s1]; rfl
  have hsum : ((FP.Core.zmag FP.Core.b64 (.fin false c q) + FP.Core.zmag FP.Core.b64 (.fin false d r) : Nat) : Int) = FP.Core.signed sg (FP.Core.inUnits n e FP.Core.b64.qmin) := by
    rw [s3, Int.natCast_add]; rfl
  have hsg : sg = false := by
    have h5 : FP.Core.exactSum (.fin false c q) (.fin false d r) = .fin (FP.Core.sumSign false false (FP.Core.sumUnits false c q false d r (min q r))) (FP.Core.sumUnits false c q false d r (min q r)).natAbs (min q r) := rfl
    rw [h5] at s1
    have h6 : FP.Core.sumSign false false (FP.Core.sumUnits false c q false d r (min q r)) = sg := by
      injection s1
    rw [← h6]
    unfold FP.Core.sumSign
    have h7 : 0 ≤ FP.Core.sumUnits false c q false d r (min q r) := by
      show (0 : Int) ≤ ((FP.Core.inUnits c q (min q r) : Nat) : Int) + ((FP.Core.inUnits d r (min q r) : Nat) : Int)
      omega
    split
    · rfl
    · exact decide_eq_false (by omega)
  subst hsg
  have hu : FP.Core.inUnits n e FP.Core.b64.qmin = FP.Core.zmag FP.Core.b64 (.fin false c q) + FP.Core.zmag FP.Core.b64 (.fin false d r) := Int.ofNat_inj.mp hsum.symm
  unfold Bd
  rw [hv]
  refine rr_bd hk (by decide) (Int.le_refl _) s2 ?_
  rw [hu, Int.sub_self]
  show _ ≤ (k + j) * FP.Core.one64 * 1 * 1
  rw [Nat.mul_one, Nat.mul_one, Nat.add_mul]
  exact Nat.add_le_add h2 h4
/-- a quotient of what is no greater is from 0 to 1 -/
theorem div_bd {a b : UInt64} {c d : Nat} {q r : Int} (ha : FP.Core.val64 a = .fin false c q) (hb : FP.Core.val64 b = .fin false d r) (hd : 0 < FP.Core.zmag FP.Core.b64 (.fin false d r)) (h : FP.Core.zmag FP.Core.b64 (.fin false c q) ≤ FP.Core.zmag FP.Core.b64 (.fin false d r)) : Bd 1 (FP.ddiv a b) := by
  have f1 := FP.Core.val64_fits a
  have f2 := FP.Core.val64_fits b
  rw [ha] at f1
  rw [hb] at f2
  have q1 := f1.2.1
  have q2 := f2.2.1
  have hd0 : 0 < d := by
    rcases Nat.eq_zero_or_pos d with e | e
    · subst e
      unfold FP.Core.zmag FP.Core.inUnits at hd
      simp at hd
    · exact e
  have hv : FP.Core.val64 (FP.ddiv a b) = FP.Core.roundRatio FP.Core.b64 false c d (q - r) := by
    rw [show FP.ddiv a b = FP.Core.ddiv a b from rfl, FP.Core.val64_ddiv, ha, hb]
    show (if d = 0 then _ else FP.Core.roundRatio FP.Core.b64 (false != false) c d (q - r)) = _
    rw [if_neg (by omega)]; rfl
  unfold Bd
  rw [hv]
  obtain ⟨e0, he0, he1⟩ : ∃ e0 : Int, e0 ≤ FP.Core.b64.qmin ∧ e0 ≤ q - r := ⟨min FP.Core.b64.qmin (q - r), by omega, by omega⟩
  refine rr_bd (e0 := e0) (by decide) hd0 he0 he1 ?_
  have hq : FP.Core.b64.qmin = -1074 := FP.Core.qmin_b64
  have h' : c * 2 ^ (q - FP.Core.b64.qmin).toNat ≤ d * 2 ^ (r - FP.Core.b64.qmin).toNat := h
  unfold FP.Core.inUnits
  have hone : FP.Core.one64 = 2 ^ 1074 := rfl
  rw [hone, Nat.one_mul, hq, ← Nat.pow_add]
  rw [hq] at h' he0 q1 q2
  have e1 : (q - r - e0).toNat + (r - -1074).toNat = (q - -1074).toNat + (-e0).toNat := by omega
  have e2 : 1074 + (-1074 - e0).toNat = (-e0).toNat := by omega
  rw [e2]
  refine Nat.le_of_mul_le_mul_right ?_ (Nat.two_pow_pos (r - -1074).toNat)
  rw [Nat.mul_assoc, ← Nat.pow_add, e1, Nat.pow_add, ← Nat.mul_assoc]
  refine Nat.le_trans (Nat.mul_le_mul_right _ h') (Nat.le_of_eq ?_)
  ac_rfl
theorem one_val : FP.Core.val64 FP.dconst1 ≠ .nan ∧ FP.Core.zval FP.Core.b64 (FP.Core.val64 FP.dconst1) = (FP.Core.one64 : Int) := by
  have h : FP.Core.DInt 1 FP.dconst1 := FP.Core.dint_one
  refine ⟨FP.Core.DInt_ne_nan h, ?_⟩
  rw [FP.Core.DInt_zval h, Int.one_mul]
theorem zero_bd : Bd 0 FP.dconst0 := ⟨0, FP.Core.b64.qmin, FP.Core.val64_zero, by
  show 0 * _ ≤ _
  rw [Nat.zero_mul]; exact Nat.zero_le _⟩
theorem bd_le1 {a : UInt64} (h : Bd 1 a) : FP.dcmp a FP.dconst1 = some .lt ∨ FP.dcmp a FP.dconst1 = some .eq := by
  obtain ⟨c, q, h1, h2⟩ := h
  have hn : FP.Core.val64 a ≠ .nan := by rw [h1]; exact fun e => by cases e
  have := FP.Core.dcmp_zval hn one_val.1
  rw [show FP.dcmp a FP.dconst1 = FP.Core.dcmp a FP.dconst1 from rfl, this, one_val.2, h1]
  have hz : FP.Core.zval FP.Core.b64 (.fin false c q) ≤ (FP.Core.one64 : Int) := by
    show ((FP.Core.zmag FP.Core.b64 (.fin false c q) : Nat) : Int) ≤ _
    rw [Nat.one_mul] at h2
    exact Int.ofNat_le.mpr h2
  rcases Int.lt_or_eq_of_le hz with e | e
  · exact Or.inl (congrArg some ((FP.Core.compare_lt_iff _ _).mpr e))
  · exact Or.inr (congrArg some ((FP.Core.compare_eq_iff _ _).mpr e))
theorem bd_ge0 {k : Nat} {a : UInt64} (h : Bd k a) : FP.dcmp a FP.dconst0 = some .gt ∨ FP.dcmp a FP.dconst0 = some .eq := by
  obtain ⟨c, q, h1, -⟩ := h
  have hn : FP.Core.val64 a ≠ .nan := by rw [h1]; exact fun e => by cases e
  have := FP.Core.dcmp_zval hn zero_bd.nn
  rw [show FP.dcmp a FP.dconst0 = FP.Core.dcmp a FP.dconst0 from rfl, this, show FP.Core.zval FP.Core.b64 (FP.Core.val64 FP.dconst0) = 0 from FP.Core.zval64_zero, h1]
  have hz : (0 : Int) ≤ FP.Core.zval FP.Core.b64 (.fin false c q) := by
    show (0 : Int) ≤ ((FP.Core.zmag FP.Core.b64 (.fin false c q) : Nat) : Int)
    omega
  rcases Int.lt_or_eq_of_le hz with e | e
  · exact Or.inl (congrArg some ((FP.Core.compare_gt_iff _ _).mpr e))
  · exact Or.inr (congrArg some ((FP.Core.compare_eq_iff _ _).mpr e.symm))
theorem cmp_le1 {a : UInt64} (h : Bd 1 a) : ¬ (0 : Int32) < Op.cmpValue (FP.dcmp a FP.dconst1) .l := by
  rcases bd_le1 h with e | e <;> rw [e] <;> decide
theorem cmp_ge0 {k : Nat} {a : UInt64} (h : Bd k a) : (0 : Int32) ≤ Op.cmpValue (FP.dcmp a FP.dconst0) .g := by
  rcases bd_ge0 h with e | e <;> rw [e] <;> decide
/-! the mean of charges -/
section Mn
variable {σ : qσ} {fc zc nw dc : Nat} {A : aS} {l : Bool}
theorem quot_bd {c : aC} {f : Nat → Int32} (h : RC f c) (h1 : c.ch ≤ c.bt) (h2 : 10 ≤ c.bt ∧ c.bt ≤ 200) : Bd 1 (FP.ddiv (FP.i2d (f 4)) (FP.i2d (f 3))) := by
  obtain ⟨⟨x, q, a1, -⟩, a2⟩ := int_bd h.h4 (by omega)
  obtain ⟨⟨y, r, b1, -⟩, b2⟩ := int_bd h.h3 (by omega)
  rw [a1] at a2
  rw [b1] at b2
  refine div_bd a1 b1 ?_ ?_
  · rw [b2]; exact Nat.mul_pos (by omega) FP.Core.one64_pos
  · rw [a2, b2]; exact Nat.mul_le_mul_right _ h1
theorem mean_ok (h : LW σ fc zc nw dc A l) : ∀ (j i : Nat) (s : UInt64), i + j = 5 → Bd i s → mcOK σ j i s ∧ Bd 5 (mcL σ j i s) := by
  obtain ⟨hO, hG, hR, hJ, hl⟩ := h
  have e5 : σ 14 2 = nI 5 := hO.1.2.1.1
  intro j
  induction j with
  | zero =>
    intro i s hi hs
    have : i = 5 := by omega
    subst this
    refine ⟨?_, hs⟩
    obtain ⟨c, q, h1, h2⟩ := hs
    obtain ⟨⟨y, r, b1, -⟩, b2⟩ := int_bd e5 (by omega)
    rw [b1] at b2
    exact n64_of (div_bd h1 b1 (by rw [b2]; exact Nat.mul_pos (by omega) FP.Core.one64_pos) (by rw [b2]; exact h2)).nn
  | succ j ih =>
    intro i s hi hs
    have hc := hR.cr i (by omega)
    have hC := hJ.c i (by omega)
    have hq := quot_bd hc hC.ch hC.bt
    have ha := add_bd hs hq (by omega)
    obtain ⟨k1, k2⟩ := ih (i + 1) _ (by omega) ha
    have hb : ¬ σ (14 + 4 + i) 3 ≤ 0 := by rw [hc.h3]; exact nI_nle (by have := hC.bt; omega) (by have := hC.bt; omega)
    refine ⟨⟨hb, n64_of hq.nn, n64_of ha.nn, k1⟩, ?_⟩
    unfold mcL
    rw [if_neg hb]; exact k2
theorem mean_bd (h : LW σ fc zc nw dc A l) : Bd 1 (FP.ddiv (mcL σ 5 0 FP.dconst0) (FP.i2d (σ 14 2))) := by
  obtain ⟨-, c, q, h1, h2⟩ := mean_ok h 5 0 FP.dconst0 (by omega) zero_bd
  obtain ⟨⟨y, r, b1, -⟩, b2⟩ := int_bd (x := σ 14 2) (k := 5) h.1.1.2.1.1 (by omega)
  rw [b1] at b2
  exact div_bd h1 b1 (by rw [b2]; exact Nat.mul_pos (by omega) FP.Core.one64_pos) (by rw [b2]; exact h2)
end Mn
