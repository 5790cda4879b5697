/-! ===== the sky: what a minute touches ===== -/
theorem fl_of {s i : Nat} (h : isSky s) (hi : i < 12) : isFl (s + 10 + 3 * i) := ⟨o_flight h hi, o_route h hi, a_cells h hi⟩
abbrev qσ : Type := Nat → Nat → Int32
def tch (s k j : Nat) : Prop := k = s + 3 ∨ (k = s ∧ 6 ≤ j ∧ j ≤ 8) ∨ (∃ i, i < 6 ∧ k = s + 4 + i ∧ (j = 4 ∨ 7 ≤ j)) ∨ (∃ i, i < 12 ∧ k = s + 10 + 3 * i ∧ j = 2)
theorem tch_h (s j : Nat) : tch s (s + 3) j := Or.inl rfl
theorem tch_s (s : Nat) {j : Nat} (h1 : 6 ≤ j) (h2 : j ≤ 8) : tch s s j := Or.inr (Or.inl ⟨rfl, h1, h2⟩)
theorem tch_c (s : Nat) {i j : Nat} (hi : i < 6) (hj : j = 4 ∨ 7 ≤ j) : tch s (s + 4 + i) j := Or.inr (Or.inr (Or.inl ⟨i, hi, rfl, hj⟩))
theorem tch_f (s : Nat) {i : Nat} (hi : i < 12) : tch s (s + 10 + 3 * i) 2 := Or.inr (Or.inr (Or.inr ⟨i, hi, rfl, rfl⟩))
def Only (s : Nat) (σ σ' : qσ) : Prop := ∀ k j, ¬ tch s k j → σ' k j = σ k j
theorem Only.rf {s : Nat} {σ : qσ} : Only s σ σ := fun _ _ _ => rfl
theorem Only.tr {s : Nat} {σ σ1 σ2 : qσ} (h : Only s σ σ1) (g : Only s σ1 σ2) : Only s σ σ2 := fun k j hk => (g k j hk).trans (h k j hk)
theorem sset_at (σ : qσ) (r j : Nat) (v : Int32) (k i : Nat) : sset σ r j v k i = if k = r ∧ i = j then v else σ k i := by
  unfold sset srow
  by_cases hk : k = r
  · subst hk
    by_cases hi : i = j <;> simp [upd, hi]
  · simp [hk]
theorem Only.set {s : Nat} {σ σ1 : qσ} {r j : Nat} (h : Only s σ σ1) (hr : tch s r j) (v : Int32) : Only s σ (sset σ1 r j v) := fun k i hk => by
  rw [sset_at]
  by_cases h1 : k = r ∧ i = j
  · rw [h1.1, h1.2] at hk; exact absurd hr hk
  · rw [if_neg h1]; exact h k i hk
theorem Only.row {s : Nat} {σ σ1 : qσ} (h : Only s σ σ1) (g : Nat → Int32) : Only s σ (srow σ1 (s + 3) g) := fun k i hk => by
  unfold srow
  by_cases h1 : k = s + 3
  · rw [h1] at hk; exact absurd (tch_h s i) hk
  · rw [if_neg h1]; exact h k i hk
theorem Only.if {s : Nat} {σ σ1 σ2 : qσ} {p : Prop} [Decidable p] (h1 : p → Only s σ σ1) (h2 : ¬ p → Only s σ σ2) : Only s σ (if p then σ1 else σ2) := by
  by_cases h : p
  · rw [if_pos h]; exact h1 h
  · rw [if_neg h]; exact h2 h
/-- the sky at s is as it must be: so many craft, flights, zones; links are truth values; routes have ten cells at most -/
def WF (σ : qσ) (s cc fc zc : Nat) : Prop := isSky s ∧ (σ s 2 = nI cc ∧ cc ≤ 6) ∧ (σ s 4 = nI fc ∧ fc ≤ 12) ∧ (σ 2 6 = nI zc ∧ zc ≤ 6) ∧ (∀ i, i < 6 → ∃ b, σ (s + 4 + i) 6 = bI b) ∧ (∀ i, i < 12 → ∃ c, c ≤ 10 ∧ σ (s + 10 + 3 * i + 1) 1 = nI c)
theorem WF.only {σ σ' : qσ} {s cc fc zc : Nat} (h : WF σ s cc fc zc) (ho : Only s σ σ') : WF σ' s cc fc zc := by
  obtain ⟨hs, h1, h2, h3, h4, h5⟩ := h
  have hl := hs.le
  refine ⟨hs, ⟨(ho s 2 ?_).trans h1.1, h1.2⟩, ⟨(ho s 4 ?_).trans h2.1, h2.2⟩, ⟨(ho 2 6 ?_).trans h3.1, h3.2⟩, fun i hi => ?_, fun i hi => ?_⟩
  · rintro (h | h | ⟨i, h⟩ | ⟨i, h⟩) <;> omega
  · rintro (h | h | ⟨i, h⟩ | ⟨i, h⟩) <;> omega
  · rintro (h | h | ⟨i, h⟩ | ⟨i, h⟩) <;> omega
  · obtain ⟨b, hb⟩ := h4 i hi
    refine ⟨b, (ho _ _ ?_).trans hb⟩
    rintro (h | h | ⟨i, h⟩ | ⟨i, h⟩) <;> omega
  · obtain ⟨c, hc, hb⟩ := h5 i hi
    refine ⟨c, hc, (ho _ _ ?_).trans hb⟩
    rintro (h | h | ⟨i, h⟩ | ⟨i, h⟩) <;> omega
/-! coming into a cell -/
def comeInF (σ : qσ) (s r zc : Nat) : qσ :=
  if bI (isCellF (σ r 8)) = 0 then σ else
    let nz := σ r 5 * σ 3 (σ r 8).toNatClampNeg
    let σ1 := sset σ (s + 3) (σ r 8).toNatClampNeg (σ (s + 3) (σ r 8).toNatClampNeg + nz)
    let σ2 := sset σ1 s 6 (σ1 s 6 + nz)
    if bI (isShutF σ2 zc (σ2 r 8) (σ2 r 0) (σ2 s 8)) = 0 then σ2 else sset σ2 r 10 (σ2 r 10 + 1)
theorem comeIn_only {σ : qσ} {s i zc : Nat} (hi : i < 6) : Only s σ (comeInF σ s (s + 4 + i) zc) := by
  unfold comeInF
  refine Only.if (fun _ => Only.rf) (fun _ => ?_)
  refine Only.if (fun _ => ?_) (fun _ => ?_)
  · exact (Only.rf.set (tch_h s _) _).set (tch_s s (by omega) (by omega)) _
  · exact ((Only.rf.set (tch_h s _) _).set (tch_s s (by omega) (by omega)) _).set (tch_c s hi (by omega)) _
set_option maxHeartbeats 4000000 in
theorem sp_comeIn (z : qZ) (k : Nat) {σ : qσ} {s cc fc zc r : Nat} (hW : WF σ s cc fc zc) (hr : isO 0 r) : SP z (k + 2) mX6_comeIn [.ref s, .ref r] σ none (comeInF σ s r zc) := by
  refine SP_of 1 (by decide) (Nat.le_of_ble_eq_true rfl) fun X n hn => ?_
  have hs := hW.1
  have hl := hs.le
  have hO := o_sky hs
  refine EV_aload_n dX6_comeIn_0 rfl ?_
  refine ES_getf dX6_comeIn_1 fkX6_100 hn (by assumption) rfl ?_
  refine ES_callS dX6_comeIn_4 mkX6_154 mfX8_isCell msX8_isCell hn (sp_isCell z (k + 1) _) rfl rfl (Nat.le_of_ble_eq_true rfl) ?_
  refine EV_if_ne 11 dX6_comeIn_7 (by decide) (fun c7 => ?_) (fun c7 => ?_)
  · skip
    refine EV_aload_n dX6_comeIn_11 rfl ?_
    refine ES_getf dX6_comeIn_12 fkX6_160 hn (by assumption) rfl ?_
    refine EV_aload_n dX6_comeIn_15 rfl ?_
    refine ES_getf dX6_comeIn_16 fkX6_27 hn (by assumption) rfl ?_
    refine ES_getf dX6_comeIn_19 fkX6_163 hn o_ground rfl ?_
    refine EV_aload_n dX6_comeIn_22 rfl ?_
    refine ES_getf dX6_comeIn_23 fkX6_100 hn (by assumption) rfl ?_
    refine ES_iald dX6_comeIn_26 hn a_houses (isCell_in c7) ?_
    refine EV_imul dX6_comeIn_27 ?_
    refine EV_istore_n dX6_comeIn_28 (Nat.le_of_ble_eq_true rfl) (Nat.le_of_ble_eq_true rfl) rfl ?_
    refine EV_aload_n dX6_comeIn_29 rfl ?_
    refine ES_getf dX6_comeIn_30 fkX6_23 hn (by assumption) rfl ?_
    refine EV_aload_n dX6_comeIn_33 rfl ?_
    refine ES_getf dX6_comeIn_34 fkX6_100 hn (by assumption) rfl ?_
    refine EV_dup2 dX6_comeIn_37 rfl rfl ?_
    refine ES_iald dX6_comeIn_38 hn (a_heard hs) (isCell_in c7) ?_
    refine EV_iload_n dX6_comeIn_39 rfl ?_
    refine EV_iadd dX6_comeIn_40 ?_
    refine ES_iast dX6_comeIn_41 hn (a_heard hs) (isCell_in c7) ?_
    refine EV_aload_n dX6_comeIn_42 rfl ?_
    refine EV_dup dX6_comeIn_43 rfl ?_
    refine ES_getf dX6_comeIn_44 fkX6_53 hn (by assumption) rfl ?_
    refine EV_iload_n dX6_comeIn_47 rfl ?_
    refine EV_iadd dX6_comeIn_48 ?_
    refine ES_put dX6_comeIn_49 fkX6_53 hn (by assumption) (Nat.le_of_ble_eq_true rfl) (fun _ _ => rfl) rfl rfl ?_
    refine EV_aload_n dX6_comeIn_52 rfl ?_
    refine ES_getf dX6_comeIn_53 fkX6_27 hn (by assumption) rfl ?_
    refine EV_aload_n dX6_comeIn_56 rfl ?_
    refine ES_getf dX6_comeIn_57 fkX6_100 hn (by assumption) rfl ?_
    refine EV_aload_n dX6_comeIn_60 rfl ?_
    refine ES_getf dX6_comeIn_61 fkX6_166 hn (by assumption) rfl ?_
    refine EV_aload_n dX6_comeIn_64 rfl ?_
    refine ES_getf dX6_comeIn_65 fkX6_59 hn (by assumption) rfl ?_
    refine ES_callV dX6_comeIn_68 mkX6_169 mfX2_isShut mvX2_isShut hn o_ground rfl (sp_isShut z k (by rw [sset_ne _ _ _ (by omega), sset_ne _ _ _ (by omega)]; exact hW.2.2.2.1.1) hW.2.2.2.1.2 _ _ _) rfl rfl (Nat.le_of_ble_eq_true rfl) ?_
    refine EV_if_eq 84 dX6_comeIn_71 (by decide) (fun c71 => ?_) (fun c71 => ?_)
    · skip
      exact ES_vret dX6_comeIn_84 rfl (by simp only [comeInF, if_neg c7, if_pos c71])
    · skip
      refine EV_aload_n dX6_comeIn_74 rfl ?_
      refine EV_dup dX6_comeIn_75 rfl ?_
      refine ES_getf dX6_comeIn_76 fkX6_173 hn (by assumption) rfl ?_
      refine EV_iconst (v := 1) dX6_comeIn_79 (by decide) ?_
      refine EV_iadd dX6_comeIn_80 ?_
      refine ES_put dX6_comeIn_81 fkX6_173 hn (by assumption) (Nat.le_of_ble_eq_true rfl) (fun _ _ => rfl) rfl rfl ?_
      exact ES_vret dX6_comeIn_84 rfl (by simp only [comeInF, if_neg c7, if_neg c71])
  · skip
    exact ES_vret dX6_comeIn_10 rfl (by simp only [comeInF, if_pos c7])
