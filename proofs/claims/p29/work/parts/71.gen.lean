/-! ===== sums of states; near never gets less ===== -/
section Sm
variable {σ τ : qσ} {fc zc nw dc : Nat} {A : aS} {l : Bool}
theorem fin_add {s : Nat} {st : Int32} : ∀ (j i : Nat) (a : Int32), finL σ s st j i a = a + finL σ s st j i 0 := by
  intro j
  induction j with
  | zero => intro i a; exact (Int32.add_zero a).symm
  | succ j ih =>
    intro i a
    unfold finL
    by_cases c : σ (s + 10 + 3 * i) 2 = st
    · rw [if_pos c, if_pos c, ih (i + 1) (a + 1), ih (i + 1) (0 + 1), Int32.zero_add, Int32.add_assoc]
    · rw [if_neg c, if_neg c, ih (i + 1) a]
theorem fin_all (hR : RS σ 5 fc A) (hF : ∀ k, k < fc → (A.F k).st ≤ 6) : ∀ (j i : Nat), i + j = fc →
    finL σ 14 0 j i 0 + finL σ 14 1 j i 0 + finL σ 14 2 j i 0 + finL σ 14 3 j i 0 + finL σ 14 4 j i 0 + finL σ 14 5 j i 0 + finL σ 14 6 j i 0 = nI j := by
  intro j
  induction j with
  | zero => intro i _; rfl
  | succ j ih =>
    intro i hi
    have hf := (hR.fl i (by omega)).h2
    have h6 := hF i (by omega)
    have hr := ih (i + 1) (by omega)
    have step : ∀ st : Int32, finL σ 14 st (j + 1) i 0 = (if σ (14 + 10 + 3 * i) 2 = st then 1 else 0) + finL σ 14 st j (i + 1) 0 := fun st => by
      show (if σ (14 + 10 + 3 * i) 2 = st then finL σ 14 st j (i + 1) (0 + 1) else finL σ 14 st j (i + 1) 0) = _
      by_cases c : σ (14 + 10 + 3 * i) 2 = st
      · rw [if_pos c, if_pos c, fin_add, Int32.zero_add]
      · rw [if_neg c, if_neg c, Int32.zero_add]
    rw [step, step, step, step, step, step, step, hf, nI_succ, ← hr]
    generalize finL σ 14 0 j (i + 1) 0 = a0
    generalize finL σ 14 1 j (i + 1) 0 = a1
    generalize finL σ 14 2 j (i + 1) 0 = a2
    generalize finL σ 14 3 j (i + 1) 0 = a3
    generalize finL σ 14 4 j (i + 1) 0 = a4
    generalize finL σ 14 5 j (i + 1) 0 = a5
    generalize finL σ 14 6 j (i + 1) 0 = a6
    have e : ∀ b : Nat, (if nI b = 0 then (1 : Int32) else 0) + a0 + ((if nI b = 1 then (1 : Int32) else 0) + a1) + ((if nI b = 2 then (1 : Int32) else 0) + a2) + ((if nI b = 3 then (1 : Int32) else 0) + a3) + ((if nI b = 4 then (1 : Int32) else 0) + a4) + ((if nI b = 5 then (1 : Int32) else 0) + a5) + ((if nI b = 6 then (1 : Int32) else 0) + a6)
        = ((if nI b = 0 then (1 : Int32) else 0) + (if nI b = 1 then (1 : Int32) else 0) + (if nI b = 2 then (1 : Int32) else 0) + (if nI b = 3 then (1 : Int32) else 0) + (if nI b = 4 then (1 : Int32) else 0) + (if nI b = 5 then (1 : Int32) else 0) + (if nI b = 6 then (1 : Int32) else 0)) + (a0 + a1 + a2 + a3 + a4 + a5 + a6) := fun b => by ac_rfl
    rw [e, Int32.add_comm]
    congr 1
    rcases (show (A.F i).st = 0 ∨ (A.F i).st = 1 ∨ (A.F i).st = 2 ∨ (A.F i).st = 3 ∨ (A.F i).st = 4 ∨ (A.F i).st = 5 ∨ (A.F i).st = 6 by omega) with q | q | q | q | q | q | q <;> rw [q] <;> decide
theorem LW.play (h : LW σ fc zc nw dc A l) : ∀ (m : Nat), nw + m ≤ 5000 → m ≤ 100 → ∃ A', LW (playF 14 5 fc zc m σ) fc zc (nw + m) dc A' l ∧ ∃ b, b ≤ 36 * m ∧ A'.ne = A.ne + nI b := by
  intro m
  revert σ nw A
  induction m with
  | zero => intro σ nw A h _ _; exact ⟨A, h, 0, by omega, (Int32.add_zero _).symm⟩
  | succ m ih =>
    intro σ nw A h hm h1
    obtain ⟨A1, w1, -, b1, b2, b3⟩ := h.pass (by omega)
    obtain ⟨A2, w2, c1, c2, c3⟩ := ih w1 (by omega) (by omega)
    refine ⟨A2, ?_, b1 + c1, by omega, ?_⟩
    · rw [show nw + (m + 1) = nw + 1 + m by omega]; exact w2
    · rw [c3, b3, Int32.add_assoc, nI_add]
theorem near_ge (h : LW σ fc zc nw dc A l) {m : Nat} (hm : nw + m ≤ 5000) (h1 : m ≤ 100) : ∃ b, b ≤ 3600 ∧ playF 14 5 fc zc m σ 14 7 - σ 14 7 = nI b := by
  obtain ⟨A', w, b, b1, b2⟩ := h.play m hm h1
  refine ⟨b, by omega, ?_⟩
  rw [w.2.2.1.near, h.2.2.1.near, b2, Int32.add_comm]
  exact Int32.add_sub_cancel _ _
end Sm
