/-! ===== what is planned, as a flight is asked for ===== -/
abbrev Vq (fc : Nat) (σ τ : qσ) : Prop := τ 3 = σ 3 ∧ τ 14 2 = σ 14 2 ∧ (∀ k, 18 ≤ k → k < 24 + 3 * fc → τ k = σ k) ∧ ∀ j, j < 25 → τ 109 j = σ 109 j
section Noi
variable {σ τ : qσ} {fc zc nw dc c st : Nat} {A : aS} {l : Bool} {dr : Nat → Nat}
theorem Vq.step (h : Vq fc σ τ) {rc r r' : Nat} (hrc : 18 ≤ rc ∧ rc < 24) (hr : r < 107) (ha : ∀ x, atF τ r' x = atF σ r x) (i : Nat) : Vq fc (planStep σ rc r i) (planStep τ rc r' i) := by
  unfold planStep
  rw [ha]
  by_cases e : bI (isCellF (atF σ r (nI i))) = 0
  · rw [if_pos e, if_pos e]; exact h
  · rw [if_neg e, if_neg e, h.2.2.2 _ (cell_lt e), h.1, h.2.2.1 rc (by omega) (by omega)]
    refine ⟨?_, ?_, fun k h1 h2 => ?_, fun j hj => ?_⟩
    · rw [sset_ne _ _ _ (by omega), sset_ne _ _ _ (by omega)]; exact h.1
    · rw [sset_ne _ _ _ (by omega), sset_ne _ _ _ (by omega)]; exact h.2.1
    · by_cases q : k = 109
      · subst q
        funext j
        rw [sset_at, sset_at]
        by_cases q2 : j = (atF σ r (nI i)).toNatClampNeg
        · rw [if_pos ⟨rfl, q2⟩, if_pos ⟨rfl, q2⟩]
        · rw [if_neg (fun x => q2 x.2), if_neg (fun x => q2 x.2), h.2.2.1 109 h1 h2]
      · rw [sset_ne _ _ _ q, sset_ne _ _ _ q]; exact h.2.2.1 k h1 h2
    · rw [sset_at, sset_at]
      by_cases q2 : j = (atF σ r (nI i)).toNatClampNeg
      · rw [if_pos ⟨rfl, q2⟩, if_pos ⟨rfl, q2⟩]
      · rw [if_neg (fun x => q2 x.2), if_neg (fun x => q2 x.2)]; exact h.2.2.2 j hj
theorem at_pl (h : Pl σ τ) {r : Nat} (h1 : r ≠ 109) (h2 : r + 1 ≠ 109) (x : Int32) : atF τ r x = atF σ r x := atF_v (h r h1) (h (r + 1) h2) x
theorem Vq.plan {rc r r' : Nat} (hrc : 18 ≤ rc ∧ rc < 24) (hr : r < 107) (hr' : r' < 107) : ∀ (j i : Nat) (σ τ : qσ), Vq fc σ τ → (∀ x, atF τ r' x = atF σ r x) → Vq fc (planL rc r j i σ) (planL rc r' j i τ) := by
  intro j
  induction j with
  | zero => intro i σ τ h _; exact h
  | succ j ih =>
    intro i σ τ h ha
    refine ih (i + 1) _ _ (h.step hrc hr ha i) (fun x => ?_)
    rw [at_pl planStep_pl (by omega) (by omega), at_pl planStep_pl (by omega) (by omega)]
    exact ha x
theorem Vq.dayS (h : Vq fc σ τ) {cc : Nat} (hc : σ 14 2 = nI cc) (h6 : cc ≤ 6) (h12 : fc ≤ 12) (day : Int32) {i : Nat} (hi : i < fc) : Vq fc (dayStep σ day i) (dayStep τ day i) := by
  have h0 : τ (14 + 10 + 3 * i) = σ (14 + 10 + 3 * i) := h.2.2.1 _ (by omega) (by omega)
  have h1 : τ (14 + 10 + 3 * i + 1) = σ (14 + 10 + 3 * i + 1) := h.2.2.1 _ (by omega) (by omega)
  have h2 : τ (14 + 10 + 3 * i + 1 + 1) = σ (14 + 10 + 3 * i + 1 + 1) := h.2.2.1 _ (by omega) (by omega)
  have e14 : isCraftF τ 14 (σ (14 + 10 + 3 * i) 0) = isCraftF σ 14 (σ (14 + 10 + 3 * i) 0) := by
    unfold isCraftF
    rw [h.2.1]
  unfold dayStep
  rw [h0, cntF_v h1, e14]
  by_cases c1 : bI (plannedF (σ (14 + 10 + 3 * i)) day) = 0
  · rw [if_pos c1, if_pos c1]; exact h
  · rw [if_neg c1, if_neg c1]
    by_cases c2 : bI (isCraftF σ 14 (σ (14 + 10 + 3 * i) 0)) = 0
    · rw [if_pos c2, if_pos c2]; exact h
    · rw [if_neg c2, if_neg c2]
      have := craft_lt hc h6 c2
      exact Vq.plan (by omega) (by omega) (by omega) _ _ _ _ h (atF_v h1 h2)
theorem Vq.dayL {cc : Nat} (h6 : cc ≤ 6) (h12 : fc ≤ 12) (day : Int32) : ∀ (j i : Nat) (σ τ : qσ), σ 14 2 = nI cc → i + j ≤ fc → Vq fc σ τ → Vq fc (dayL day j i σ) (dayL day j i τ) := by
  intro j
  induction j with
  | zero => intro i σ τ _ _ h; exact h
  | succ j ih => intro i σ τ hc hi h; exact ih (i + 1) _ _ (by rw [dayStep_pl 14 (by omega)]; exact hc) (by omega) (h.dayS hc h6 h12 day (by omega))
theorem dayL_succ (day : Int32) : ∀ (j i : Nat) (σ : qσ), dayL day (j + 1) i σ = dayStep (dayL day j i σ) day (i + j) := by
  intro j
  induction j with
  | zero => intro i σ; rfl
  | succ j ih =>
    intro i σ
    show dayL day (j + 1) (i + 1) (dayStep σ day i) = dayStep (dayL day j (i + 1) (dayStep σ day i)) day (i + (j + 1))
    rw [ih, show i + 1 + j = i + (j + 1) by omega]
theorem loud_f {r : Nat} : ∀ (j i t : Nat), bI (loudL σ r j i) = 0 → i ≤ t → t < i + j → bI (isCellF (atF σ r (nI t))) ≠ 0 → σ 109 (atF σ r (nI t)).toNatClampNeg ≤ 60 := by
  intro j
  induction j with
  | zero => intro i t _ h1 h2; omega
  | succ j ih =>
    intro i t h h1 h2 hc
    unfold loudL at h
    by_cases q : i = t
    · subst q
      rw [if_neg hc] at h
      by_cases x : σ 109 (atF σ r (nI i)).toNatClampNeg ≤ 60
      · exact x
      · rw [if_neg x] at h; exact absurd h (by decide)
    · have hr : bI (loudL σ r j (i + 1)) = 0 := by
        by_cases c1 : bI (isCellF (atF σ r (nI i))) = 0
        · rw [if_pos c1] at h; exact h
        · rw [if_neg c1] at h
          by_cases c2 : σ 109 (atF σ r (nI i)).toNatClampNeg ≤ 60
          · rw [if_pos c2] at h; exact h
          · rw [if_neg c2] at h; exact absurd h (by decide)
      exact ih (i + 1) t hr (by omega) (by omega) hc
/-- of a cell of the new flight no more is planned than it may be -/
theorem planned_le (h : LW σ fc zc nw dc A l) (hd : DR σ dc dr) (w : wayN dc dr) (hr : reasonF σ c 106 st fc zc = 0) (hc : c < 5) (hst : st < 2 ^ 20) (hf : fc < 12) {v : Nat} (hv : v < dc) :
    planDayF (addFlightF σ fc c st) (nI st / 1440) (fc + 1) 109 (dr v) ≤ 60 := by
  obtain ⟨⟨⟨hs, h1', h2, h3, h4, h5⟩, ⟨h6, h7⟩, h8, h9, h10⟩, hG, hR, hJ, hl⟩ := h
  obtain ⟨-, -, hlo⟩ := reason0 hr
  obtain ⟨⟨a1, a2, a3⟩, a4, a5, a6, a7, a8, a9⟩ := addF_rows (σ := σ) hf c st
  have hdv := w.2.2.1 v hv
  have hln : 2 ≤ aF.ln (c, st, 0, dc, dr) ∧ aF.ln (c, st, 0, dc, dr) ≤ 10 := ⟨w.1, w.2.1⟩
  have v0 : Vq fc (srow σ 109 (fillF 25 0 (σ 109))) (srow (addFlightF σ fc c st) 109 (fillF 25 0 (addFlightF σ fc c st 109))) := by
    refine ⟨?_, ?_, fun k h1 h2 => ?_, fun j hj => ?_⟩
    · rw [srow_ne _ _ (by omega), srow_ne _ _ (by omega)]; exact a6 3 (by omega) (by omega) (by omega) (by omega) (by omega)
    · rw [srow_ne _ _ (by omega), srow_ne _ _ (by omega)]; exact a7 2 (by omega)
    · rw [srow_ne _ _ (by omega), srow_ne _ _ (by omega)]; exact a6 k (by omega) (by omega) (by omega) (by omega) (by omega)
    · rw [srow_self, srow_self]
      unfold fillF
      rw [if_pos hj, if_pos hj]
  have v1 := Vq.dayL (cc := 5) (by omega) (by omega) (nI st / 1440) fc 0 _ _ (by rw [srow_ne _ _ (by omega)]; exact h1'.1) (by omega) v0
  have p1 : Pl (addFlightF σ fc c st) (dayL (nI st / 1440) fc 0 (srow (addFlightF σ fc c st) 109 (fillF 25 0 (addFlightF σ fc c st 109)))) := planDay_pl
  have p0 : Pl σ (dayL (nI st / 1440) fc 0 (srow σ 109 (fillF 25 0 (σ 109)))) := planDay_pl
  have er : ∀ x, atF (addFlightF σ fc c st) (14 + 10 + 3 * fc + 1) x = atF σ 106 x := fun x => by
    unfold atF
    rw [a4]
    by_cases c1 : x < 0
    · rw [if_pos c1, if_pos c1]
    · rw [if_neg c1, if_neg c1]
      by_cases c2 : σ 106 1 ≤ x
      · rw [if_pos c2, if_pos c2]
      · rw [if_neg c2, if_neg c2]
        by_cases c3 : (10 : Int32) ≤ x
        · rw [if_pos c3, if_pos c3]
        · rw [if_neg c3, if_neg c3]
          exact a5 _ (vp_lt (vp_in_z (n := 10) c1 (Int32.not_le.mp c3) (by omega)))
  unfold planDayF
  rw [dayL_succ, Nat.zero_add]
  unfold dayStep
  rw [p1 (14 + 10 + 3 * fc) (by omega), cntF_v (p1 (14 + 10 + 3 * fc + 1) (by omega))]
  have hpl : bI (plannedF (addFlightF σ fc c st (14 + 10 + 3 * fc)) (nI st / 1440)) ≠ 0 := by
    refine bI_ne0 ?_
    unfold plannedF aheadF
    rw [a3, a2, if_pos rfl, if_neg (by decide), if_pos rfl]
  rw [if_neg hpl, a1]
  have hcr : bI (isCraftF (dayL (nI st / 1440) fc 0 (srow (addFlightF σ fc c st) 109 (fillF 25 0 (addFlightF σ fc c st 109)))) 14 (nI c)) ≠ 0 := by
    refine bI_ne0 (isCraft_of (cc := 5) ?_ (by omega) hc)
    rw [p1 14 (by omega), a7 2 (by omega)]; exact h1'.1
  rw [if_neg hcr, nI_clamp (by omega)]
  have ecnt : cntF (addFlightF σ fc c st) (14 + 10 + 3 * fc + 1) = cntF (planDayF σ (nI st / 1440) fc) 106 := by
    rw [cntF_v (show planDayF σ (nI st / 1440) fc 106 = σ 106 from planDay_pl 106 (by omega))]
    unfold cntF
    rw [a4]
  rw [ecnt]
  have v2 := Vq.plan (rc := 14 + 4 + c) (r := 106) (r' := 14 + 10 + 3 * fc + 1) (by omega) (by omega) (by omega) (cntF (planDayF σ (nI st / 1440) fc) 106) 0 _ _ v1 (fun x => by
    rw [at_pl p1 (by omega) (by omega), at_pl p0 (by omega) (by omega)]; exact er x)
  rw [v2.2.2.2 _ hdv]
  show loudS σ (14 + 4 + c) 106 (nI st) fc 109 (dr v) ≤ 60
  have hpS : Pl σ (loudS σ (14 + 4 + c) 106 (nI st) fc) := loudS_pl
  have ea : atF (loudS σ (14 + 4 + c) 106 (nI st) fc) 106 (nI v) = nI (dr v) := by
    rw [at_pl hpS (by omega) (by omega)]
    exact at_rs (hd.rf c st) hln hv
  unfold loudB at hlo
  rw [cntF_v (hpS 106 (by omega)), cntF_of hd.1 w.2.1] at hlo
  have := loud_f dc 0 v hlo (by omega) (by omega) (by rw [ea]; exact bI_ne0 (isCell_of (vp_in_nI hdv (by omega))))
  rw [ea, nI_clamp (by omega)] at this
  exact this
/-! the soonest start -/
theorem so_spec (h : WF σ 14 5 fc zc) (hc : c < 5) : ∀ (j i : Nat) (τ : qσ), Vis σ τ → ((soL c fc zc nw j i τ).1 = -1 ∧ ∀ t, i ≤ t → t < i + j → reasonF σ c 106 (nw + t) fc zc ≠ 0) ∨ ∃ t, i ≤ t ∧ t < i + j ∧ (soL c fc zc nw j i τ).1 = nI (nw + t) ∧ reasonF σ c 106 (nw + t) fc zc = 0 ∧ ∀ u, i ≤ u → u < t → reasonF σ c 106 (nw + u) fc zc ≠ 0 := by
  intro j
  induction j with
  | zero => intro i τ _; exact Or.inl ⟨rfl, fun t h1 h2 => by omega⟩
  | succ j ih =>
    intro i τ hv
    have er := reason_v hv h (st := nw + i) hc
    unfold soL
    rw [er]
    by_cases e : reasonF σ c 106 (nw + i) fc zc = 0
    · rw [if_pos e]
      exact Or.inr ⟨i, by omega, by omega, rfl, e, fun u h1 h2 => by omega⟩
    · rw [if_neg e]
      rcases ih (i + 1) _ (hv.tr reasonS_pl.v) with ⟨a, b⟩ | ⟨t, a, b, d, f, g⟩
      · refine Or.inl ⟨a, fun t h1 h2 => ?_⟩
        by_cases q : t = i
        · subst q; exact e
        · exact b t (by omega) (by omega)
      · refine Or.inr ⟨t, by omega, by omega, d, f, fun u h1 h2 => ?_⟩
        by_cases q : u = i
        · subst q; exact e
        · exact g u (by omega) h2
end Noi
