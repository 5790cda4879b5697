/-! ===== the trial's copy is like the sky; what an answer shows is alike ===== -/
theorem cpCL_row : ∀ (j i : Nat) (σ : qσ), i + j ≤ 6 → (∀ t m, i ≤ t → t < i + j → m < 12 → cpCL j i σ (60 + 4 + t) m = σ (14 + 4 + t) m) ∧ ∀ k, (k < 60 + 4 + i ∨ 60 + 4 + (i + j) ≤ k) → cpCL j i σ k = σ k := by
  intro j
  induction j with
  | zero => intro i σ _; exact ⟨fun t m h1 h2 _ => absurd h2 (by omega), fun _ _ => rfl⟩
  | succ j ih =>
    intro i σ hi
    obtain ⟨a, b⟩ := ih (i + 1) (cpCraftF σ (60 + 4 + i) (14 + 4 + i)) (by omega)
    have e := cpCraft_row (σ := σ) (r := 60 + 4 + i) (o := 14 + 4 + i) (by omega)
    refine ⟨fun t m h1 h2 h3 => ?_, fun k hk => ?_⟩
    · show cpCL j (i + 1) (cpCraftF σ (60 + 4 + i) (14 + 4 + i)) (60 + 4 + t) m = _
      by_cases ht : t = i
      · subst ht
        rw [b _ (by omega), e, srow_self, cpRow, if_pos h3]
      · rw [a t m (by omega) (by omega) h3, e, srow_ne _ _ (by omega)]
    · show cpCL j (i + 1) (cpCraftF σ (60 + 4 + i) (14 + 4 + i)) k = _
      rw [b k (by omega), e, srow_ne _ _ (by omega)]
theorem cpFL_row : ∀ (j i : Nat) (σ : qσ), i + j ≤ 12 → (∀ t, i ≤ t → t < i + j → (∀ m, m < 3 → cpFL j i σ (60 + 10 + 3 * t) m = σ (14 + 10 + 3 * t) m) ∧ cpFL j i σ (60 + 10 + 3 * t + 1) 1 = σ (14 + 10 + 3 * t + 1) 1 ∧ ∀ m, m < 10 → cpFL j i σ (60 + 10 + 3 * t + 1 + 1) m = σ (14 + 10 + 3 * t + 1 + 1) m) ∧
    ∀ k, (k < 60 + 10 + 3 * i ∨ 60 + 10 + 3 * (i + j) ≤ k) → cpFL j i σ k = σ k := by
  intro j
  induction j with
  | zero => intro i σ _; exact ⟨fun t h1 h2 => absurd h2 (by omega), fun _ _ => rfl⟩
  | succ j ih =>
    intro i σ hi
    obtain ⟨a, b⟩ := ih (i + 1) (cpFlightF σ (60 + 10 + 3 * i) (14 + 10 + 3 * i)) (by omega)
    have e := cpF_row (σ := σ) (i := i) (by omega)
    refine ⟨fun t h1 h2 => ?_, fun k hk => ?_⟩
    · show (∀ m, m < 3 → cpFL j (i + 1) (cpFlightF σ (60 + 10 + 3 * i) (14 + 10 + 3 * i)) (60 + 10 + 3 * t) m = _) ∧ cpFL j (i + 1) (cpFlightF σ (60 + 10 + 3 * i) (14 + 10 + 3 * i)) (60 + 10 + 3 * t + 1) 1 = _ ∧ ∀ m, m < 10 → cpFL j (i + 1) (cpFlightF σ (60 + 10 + 3 * i) (14 + 10 + 3 * i)) (60 + 10 + 3 * t + 1 + 1) m = _
      by_cases ht : t = i
      · subst ht
        rw [b _ (by omega), b _ (by omega), b _ (by omega), e]
        refine ⟨fun m hm => ?_, ?_, fun m hm => ?_⟩
        · rw [sset_ne _ _ _ (by omega), srow_ne _ _ (by omega), srow_self, cpRow, if_pos hm]
        · rw [sset_at, if_pos ⟨rfl, rfl⟩]
        · rw [sset_ne _ _ _ (by omega), srow_self, cpRow, if_pos hm]
      · obtain ⟨a1, a2, a3⟩ := a t (by omega) (by omega)
        have f : ∀ k, (k < 60 ∨ 60 + 10 + 3 * (i + 1) ≤ k) → cpFlightF σ (60 + 10 + 3 * i) (14 + 10 + 3 * i) k = σ k := fun k hk => by
          rw [e, sset_ne _ _ _ (by omega), srow_ne _ _ (by omega), srow_ne _ _ (by omega)]
        refine ⟨fun m hm => ?_, ?_, fun m hm => ?_⟩
        · rw [a1 m hm, f _ (by omega)]
        · rw [a2, f _ (by omega)]
        · rw [a3 m hm, f _ (by omega)]
    · show cpFL j (i + 1) (cpFlightF σ (60 + 10 + 3 * i) (14 + 10 + 3 * i)) k = _
      rw [b k (by omega), e, sset_ne _ _ _ (by omega), srow_ne _ _ (by omega), srow_ne _ _ (by omega)]
section Cp
variable {σ τ : qσ} {pc cc fc zc nw dc : Nat}
theorem cp_sim (hW : WF σ 14 cc fc zc) (h60 : WT σ 60) : Sim cc fc 60 (cpSkyF σ cc fc) 14 σ := by
  have h6 := hW.2.1.2
  have h12 := hW.2.2.1.2
  have ht := (cpSky_ok hW h60).2
  obtain ⟨-, -, trA, eA⟩ := cpA_ok hW h60
  obtain ⟨-, -, trB, eB⟩ := cpB_ok hW h60
  obtain ⟨a1, a2⟩ := cpCL_row cc 0 (sset σ 60 2 (σ 14 2)) (by omega)
  obtain ⟨b1, b2⟩ := cpFL_row fc 0 (sset (cpA σ cc) 60 4 (cpA σ cc 14 4)) (by omega)
  have last : ∀ k, k ≠ 60 → cpSkyF σ cc fc k = cpC σ cc fc k := fun k hk => by
    unfold cpSkyF
    rw [sset_ne _ _ _ hk, sset_ne _ _ _ hk, sset_ne _ _ _ hk]
  have mid : ∀ k, k ≠ 60 → k ≠ 63 → cpSkyF σ cc fc k = cpB σ cc fc k := fun k hk h3 => by
    rw [last k hk]
    unfold cpC
    rw [srow_ne _ _ (by omega)]
  refine ⟨fun k hk => by rw [ht k (by omega)], fun d j hd => ?_⟩
  rcases hd with ⟨rfl, hj⟩ | ⟨rfl, hj⟩ | ⟨i, hi, rfl, hj⟩ | ⟨i, hi, rfl, hj⟩ | ⟨i, hi, rfl, rfl⟩ | ⟨i, hi, rfl, hj⟩
  · have e0 : cpC σ cc fc 60 = upd (upd (σ 60) 2 (σ 14 2)) 4 (σ 14 4) := by
      unfold cpC
      rw [srow_ne _ _ (by omega)]; exact eB
    have e14 : cpC σ cc fc 14 = σ 14 := by
      unfold cpC
      rw [srow_ne _ _ (by omega), trB _ (by omega)]
    have n0 : (14 : Nat) ≠ 60 := by omega
    unfold cpSkyF
    simp only [Nat.add_zero, sset_at, e14, e0, n0, false_and, if_false, true_and]
    rcases (show j = 2 ∨ j = 4 ∨ j = 6 ∨ j = 7 ∨ j = 8 by omega) with rfl | rfl | rfl | rfl | rfl <;> simp [upd]
  · rw [last _ (by omega)]
    unfold cpC
    rw [srow_self, cpy_row, cpRow, if_pos hj, trB _ (by omega)]
  · rw [mid _ (by omega) (by omega), show 60 + (4 + i) = 60 + 4 + i by omega]
    unfold cpB
    rw [b2 _ (by omega), sset_ne _ _ _ (by omega)]
    unfold cpA
    rw [a1 i j (by omega) (by omega) hj, sset_ne _ _ _ (by omega), show 14 + (4 + i) = 14 + 4 + i by omega]
  · rw [mid _ (by omega) (by omega), show 60 + (10 + 3 * i) = 60 + 10 + 3 * i by omega]
    unfold cpB
    rw [(b1 i (by omega) (by omega)).1 j hj, sset_ne _ _ _ (by omega), trA _ (by omega), show 14 + (10 + 3 * i) = 14 + 10 + 3 * i by omega]
  · rw [mid _ (by omega) (by omega), show 60 + (10 + 3 * i + 1) = 60 + 10 + 3 * i + 1 by omega]
    unfold cpB
    rw [(b1 i (by omega) (by omega)).2.1, sset_ne _ _ _ (by omega), trA _ (by omega), show 14 + (10 + 3 * i + 1) = 14 + 10 + 3 * i + 1 by omega]
  · rw [mid _ (by omega) (by omega), show 60 + (10 + 3 * i + 2) = 60 + 10 + 3 * i + 1 + 1 by omega]
    unfold cpB
    rw [(b1 i (by omega) (by omega)).2.2 j hj, sset_ne _ _ _ (by omega), trA _ (by omega), show 14 + (10 + 3 * i + 2) = 14 + 10 + 3 * i + 1 + 1 by omega]
theorem vis_sim (h : Vis σ τ) (h12 : fc ≤ 12) (h6 : cc ≤ 6) : Sim cc fc 14 τ 14 σ := by
  refine ⟨fun k hk => by rw [h k (by unfold hid; omega)], fun d j hd => ?_⟩
  have hk : 14 + d < 60 := by
    rcases hd with ⟨e, -⟩ | ⟨e, -⟩ | ⟨i, _, e, -⟩ | ⟨i, _, e, -⟩ | ⟨i, _, e, -⟩ | ⟨i, _, e, -⟩ <;> omega
  rw [h _ (by unfold hid; omega)]
/-- what the trial shows is what the sky would show -/
theorem tr_sim (hW : WF σ 14 cc fc zc) (h60 : WT σ 60) (m : Nat) : Sim cc fc 60 (playF 60 cc fc zc m (cpSkyF σ cc fc)) 14 (playF 14 cc fc zc m σ) :=
  Sim.play m _ _ (cp_sim hW h60) (cpSky_ok hW h60).1 hW
theorem near_eq (hW : WF σ 14 cc fc zc) (h60 : WT σ 60) (m : Nat) : playF 60 cc fc zc m (cpSkyF σ cc fc) 60 7 - playF 60 cc fc zc m (cpSkyF σ cc fc) 14 7 = playF 14 cc fc zc m σ 14 7 - σ 14 7 := by
  have h := tr_sim hW h60 m
  have ho := play_only m _ (cpSky_ok hW h60).1
  have e : playF 60 cc fc zc m (cpSkyF σ cc fc) 14 7 = σ 14 7 := by
    rw [ho 14 7 (by rintro (h | h | ⟨i, h⟩ | ⟨i, h⟩) <;> omega), (cpSky_ok hW h60).2 14 (by omega)]
  rw [e, h.sl (j := 7) (by omega)]
theorem have_eq (hW : WF σ 14 cc fc zc) (h60 : WT σ 60) (m : Nat) {i : Nat} (hi : i < cc) : haveF (playF 60 cc fc zc m (cpSkyF σ cc fc)) (60 + 4 + i) = haveF (playF 14 cc fc zc m σ) (14 + 4 + i) := by
  have h := tr_sim hW h60 m
  unfold haveF
  rw [h.cr hi (show 7 < 12 by omega), h.cr hi (show 4 < 12 by omega)]
theorem play_vis (h : Vis σ τ) (hW : WF σ 14 cc fc zc) (m : Nat) : Sim cc fc 14 (playF 14 cc fc zc m τ) 14 (playF 14 cc fc zc m σ) :=
  Sim.play m _ _ (vis_sim h hW.2.2.1.2 hW.2.1.2) (hW.vis h) hW
end Cp
