/-! ===== the judge ===== -/
def cntF (σ : qσ) (r : Nat) : Nat := (σ r 1).toNatClampNeg
theorem cntF_of {σ : qσ} {r c : Nat} (h : σ r 1 = nI c) (hc : c ≤ 10) : cntF σ r = c := by rw [cntF, h]; exact nI_clamp (by omega)
/-- a route that has ten cells at most -/
def okRt (σ : qσ) (r : Nat) : Prop := isRt r ∧ r < 107 ∧ ∃ c, c ≤ 10 ∧ σ r 1 = nI c
theorem okRt.cnt {σ : qσ} {r : Nat} (h : okRt σ r) : σ r 1 = nI (cntF σ r) ∧ cntF σ r ≤ 10 := by
  obtain ⟨-, -, c, hc, h⟩ := h
  rw [cntF_of h hc]
  exact ⟨h, hc⟩
theorem WF.rt {σ : qσ} {s cc fc zc i : Nat} (h : WF σ s cc fc zc) (hi : i < 12) : okRt σ (s + 10 + 3 * i + 1) := by
  have hs := h.1.le
  refine ⟨(fl_of h.1 hi).2, ?_, h.2.2.2.2.2 i hi⟩
  rcases h.1 with rfl | rfl <;> omega
/-- only the planned noise has changed -/
def Pl (σ σ' : qσ) : Prop := ∀ k, k ≠ 109 → σ' k = σ k
theorem Pl.rf {σ : qσ} : Pl σ σ := fun _ _ => rfl
theorem Pl.tr {σ σ1 σ2 : qσ} (h : Pl σ σ1) (g : Pl σ1 σ2) : Pl σ σ2 := fun k hk => (g k hk).trans (h k hk)
theorem Pl.set {σ σ1 : qσ} (h : Pl σ σ1) (j : Nat) (v : Int32) : Pl σ (sset σ1 109 j v) := fun k hk => (sset_ne _ _ _ hk).trans (h k hk)
theorem Pl.row {σ σ1 : qσ} (h : Pl σ σ1) (g : Nat → Int32) : Pl σ (srow σ1 109 g) := fun k hk => (srow_ne _ _ hk).trans (h k hk)
theorem Pl.if {σ σ1 σ2 : qσ} {p : Prop} [Decidable p] (h1 : Pl σ σ1) (h2 : Pl σ σ2) : Pl σ (if p then σ1 else σ2) := by
  by_cases h : p
  · rw [if_pos h]; exact h1
  · rw [if_neg h]; exact h2
theorem WF.pl {σ σ' : qσ} {s cc fc zc : Nat} (h : WF σ s cc fc zc) (hp : Pl σ σ') : WF σ' s cc fc zc := by
  obtain ⟨hs, h1, h2, h3, h4, h5⟩ := h
  refine ⟨hs, ⟨?_, h1.2⟩, ⟨?_, h2.2⟩, ⟨?_, h3.2⟩, fun i hi => ?_, fun i hi => ?_⟩
  · rw [hp s (by have := hs.le; omega)]; exact h1.1
  · rw [hp s (by have := hs.le; omega)]; exact h2.1
  · rw [hp 2 (by omega)]; exact h3.1
  · rw [hp _ (by rcases hs with rfl | rfl <;> omega)]; exact h4 i hi
  · rw [hp _ (by rcases hs with rfl | rfl <;> omega)]; exact h5 i hi
theorem okRt.pl {σ σ' : qσ} {r : Nat} (h : okRt σ r) (hp : Pl σ σ') : okRt σ' r := by
  refine ⟨h.1, h.2.1, ?_⟩
  rw [hp r (by have := h.2.1; omega)]
  exact h.2.2
theorem cntF_pl {σ σ' : qσ} {r : Nat} (hr : r < 107) (hp : Pl σ σ') : cntF σ' r = cntF σ r := by rw [cntF, cntF, hp r (by omega)]
def planStep (σ : qσ) (rc r i : Nat) : qσ := if bI (isCellF (atF σ r (nI i))) = 0 then σ else sset σ 109 (atF σ r (nI i)).toNatClampNeg (σ 109 (atF σ r (nI i)).toNatClampNeg + σ rc 5 * σ 3 (atF σ r (nI i)).toNatClampNeg)
def planL (rc r : Nat) : Nat → Nat → qσ → qσ
  | 0, _, σ => σ
  | j + 1, i, σ => planL rc r j (i + 1) (planStep σ rc r i)
theorem planStep_pl {σ : qσ} {rc r i : Nat} : Pl σ (planStep σ rc r i) := Pl.if Pl.rf (Pl.rf.set _ _)
theorem planL_pl {rc r : Nat} : ∀ (j i : Nat) (σ : qσ), Pl σ (planL rc r j i σ) := by
  intro j
  induction j with
  | zero => intro i σ; exact Pl.rf
  | succ j ih => intro i σ; exact planStep_pl.tr (ih (i + 1) _)
section Jd
variable {z : qZ} {k : Nat} {X : qM} {n : Nat}
set_option maxHeartbeats 4000000 in
theorem lp_plan (hn : 112 ≤ n) {rc r cnt : Nat} (hc : isO 0 rc) : ∀ (j i : Nat) (σ : qσ) (w4 : Value), w4.category = 1 → okRt σ r → cntF σ r = cnt → i + j = cnt → EV z (k + 1) mX3_plan 2 [.ref 108, .ref rc, .ref r, .int (nI i), w4] [] (mm σ X) n 0 0 (qRes none (mm (planL rc r j i σ) X) n) := by
  intro j
  induction j with
  | zero =>
    intro i σ w4 h4 hr hcn hi
    have hO := hr.1.1
    have hq := hr.cnt
    refine EV_iload_n dX3_plan_2 rfl ?_
    refine EV_aload_n dX3_plan_3 rfl ?_
    refine ES_getf dX3_plan_4 fkX3_59 hn (by assumption) rfl ?_
    refine EV_icmp_ge 56 dX3_plan_7 (by decide) (fun c7 => ?_) (fun c7 => ?_)
    · skip
      exact ES_vret dX3_plan_56 rfl rfl
    · skip
      exact absurd (by rw [hq.1]; exact nI_le (by omega) (by omega)) c7
  | succ j ih =>
    intro i σ w4 h4 hr hcn hi
    have hO := hr.1.1
    have hq := hr.cnt
    refine EV_iload_n dX3_plan_2 rfl ?_
    refine EV_aload_n dX3_plan_3 rfl ?_
    refine ES_getf dX3_plan_4 fkX3_59 hn (by assumption) rfl ?_
    refine EV_icmp_ge 56 dX3_plan_7 (by decide) (fun c7 => ?_) (fun c7 => ?_)
    · skip
      exact absurd c7 (by rw [hq.1]; exact nI_ge (by omega) (by omega))
    · skip
      refine EV_aload_n dX3_plan_10 rfl ?_
      refine EV_iload_n dX3_plan_11 rfl ?_
      refine ES_callV dX3_plan_12 mkX3_64 mfX4_at mvX4_at hn (by assumption) rfl (sp_at z k hr.1.1 hr.1.2 _) rfl rfl (Nat.le_of_ble_eq_true rfl) ?_
      refine EV_istore dX3_plan_15 (Nat.le_of_ble_eq_true rfl) (Nat.le_of_ble_eq_true rfl) rfl ?_
      refine EV_iload dX3_plan_17 rfl ?_
      refine ES_callS dX3_plan_19 mkX3_68 mfX8_isCell msX8_isCell hn (sp_isCell z k _) rfl rfl (Nat.le_of_ble_eq_true rfl) ?_
      refine EV_if_eq 50 dX3_plan_22 (by decide) (fun c22 => ?_) (fun c22 => ?_)
      · skip
        refine EV_iinc dX3_plan_50 rfl (Nat.le_of_ble_eq_true rfl) rfl ?_
        refine EV_goto 2 dX3_plan_53 (by decide) ?_
        rw [show nI i + Int32.ofInt 1 = nI (i + 1) from (nI_succ i).symm]
        have hp := planStep_pl (σ := σ) (rc := rc) (r := r) (i := i)
        simp only [planL, planStep, if_neg c7, if_pos c22] at hp ⊢
        exact ih (i + 1) _ _ rfl (hr.pl hp) ((cntF_pl hr.2.1 hp).trans hcn) (by omega)
      · skip
        refine EV_aload_n dX3_plan_25 rfl ?_
        refine ES_getf dX3_plan_26 fkX3_9 hn o_judge rfl ?_
        refine EV_iload dX3_plan_29 rfl ?_
        refine EV_dup2 dX3_plan_31 rfl rfl ?_
        refine ES_iald dX3_plan_32 hn a_planned (isCell_in c22) ?_
        refine EV_aload_n dX3_plan_33 rfl ?_
        refine ES_getf dX3_plan_34 fkX3_130 hn (by assumption) rfl ?_
        refine EV_aload_n dX3_plan_37 rfl ?_
        refine ES_getf dX3_plan_38 fkX3_15 hn o_judge rfl ?_
        refine ES_getf dX3_plan_41 fkX3_133 hn o_ground rfl ?_
        refine EV_iload dX3_plan_44 rfl ?_
        refine ES_iald dX3_plan_46 hn a_houses (isCell_in c22) ?_
        refine EV_imul dX3_plan_47 ?_
        refine EV_iadd dX3_plan_48 ?_
        refine ES_iast dX3_plan_49 hn a_planned (isCell_in c22) ?_
        refine EV_iinc dX3_plan_50 rfl (Nat.le_of_ble_eq_true rfl) rfl ?_
        refine EV_goto 2 dX3_plan_53 (by decide) ?_
        rw [show nI i + Int32.ofInt 1 = nI (i + 1) from (nI_succ i).symm]
        have hp := planStep_pl (σ := σ) (rc := rc) (r := r) (i := i)
        simp only [planL, planStep, if_neg c7, if_neg c22] at hp ⊢
        exact ih (i + 1) _ _ rfl (hr.pl hp) ((cntF_pl hr.2.1 hp).trans hcn) (by omega)
theorem sp_plan (σ : qσ) {rc r : Nat} (hc : isO 0 rc) (hr : okRt σ r) : SP z (k + 1) mX3_plan [.ref 108, .ref rc, .ref r] σ none (planL rc r (cntF σ r) 0 σ) := by
  refine SP_of 2 (by decide) (Nat.le_of_ble_eq_true rfl) fun X n hn => ?_
  refine EV_iconst (v := 0) dX3_plan_0 (by decide) ?_
  refine EV_istore_n dX3_plan_1 (Nat.le_of_ble_eq_true rfl) (Nat.le_of_ble_eq_true rfl) rfl ?_
  exact lp_plan hn hc _ 0 σ _ rfl hr rfl (by omega)
def dayStep (σ : qσ) (day : Int32) (i : Nat) : qσ := if bI (plannedF (σ (14 + 10 + 3 * i)) day) = 0 then σ else if bI (isCraftF σ 14 (σ (14 + 10 + 3 * i) 0)) = 0 then σ else planL (14 + 4 + (σ (14 + 10 + 3 * i) 0).toNatClampNeg) (14 + 10 + 3 * i + 1) (cntF σ (14 + 10 + 3 * i + 1)) 0 σ
def dayL (day : Int32) : Nat → Nat → qσ → qσ
  | 0, _, σ => σ
  | j + 1, i, σ => dayL day j (i + 1) (dayStep σ day i)
def planDayF (σ : qσ) (day : Int32) (fc : Nat) : qσ := dayL day fc 0 (srow σ 109 (fillF 25 0 (σ 109)))
theorem dayStep_pl {σ : qσ} {day : Int32} {i : Nat} : Pl σ (dayStep σ day i) := Pl.if Pl.rf (Pl.if Pl.rf (planL_pl _ _ _))
theorem dayL_pl {day : Int32} : ∀ (j i : Nat) (σ : qσ), Pl σ (dayL day j i σ) := by
  intro j
  induction j with
  | zero => intro i σ; exact Pl.rf
  | succ j ih => intro i σ; exact dayStep_pl.tr (ih (i + 1) _)
theorem planDay_pl {σ : qσ} {day : Int32} {fc : Nat} : Pl σ (planDayF σ day fc) := (Pl.rf.row _).tr (dayL_pl _ _ _)
theorem s14 : isSky 14 := Or.inl rfl
set_option maxHeartbeats 8000000 in
theorem lp_day (hn : 112 ≤ n) (day : Int32) {cc fc zc : Nat} : ∀ (j i : Nat) (σ : qσ) (w3 : Value), w3.category = 1 → WF σ 14 cc fc zc → i + j = fc → EV z (k + 2) mX3_planDay 10 [.ref 108, .int day, .int (nI i), w3] [] (mm σ X) n 0 0 (qRes none (mm (dayL day j i σ) X) n) := by
  have hO := o_sky s14
  intro j
  induction j with
  | zero =>
    intro i σ w3 h3 hW hi
    have hc := hW.2.2.1
    refine EV_iload_n dX3_planDay_10 rfl ?_
    refine EV_aload_n dX3_planDay_11 rfl ?_
    refine ES_getf dX3_planDay_12 fkX3_19 hn o_judge rfl ?_
    refine ES_getf dX3_planDay_15 fkX3_83 hn (by assumption) rfl ?_
    refine EV_icmp_ge 79 dX3_planDay_18 (by decide) (fun c18 => ?_) (fun c18 => ?_)
    · skip
      exact ES_vret dX3_planDay_79 rfl rfl
    · skip
      exact absurd (by rw [hc.1]; exact nI_le (by omega) (by omega)) c18
  | succ j ih =>
    intro i σ w3 h3 hW hi
    have hc := hW.2.2.1
    have hF := fl_of s14 (show i < 12 by omega)
    have hFO := hF.1
    have hR := hW.rt (show i < 12 by omega)
    refine EV_iload_n dX3_planDay_10 rfl ?_
    refine EV_aload_n dX3_planDay_11 rfl ?_
    refine ES_getf dX3_planDay_12 fkX3_19 hn o_judge rfl ?_
    refine ES_getf dX3_planDay_15 fkX3_83 hn (by assumption) rfl ?_
    refine EV_icmp_ge 79 dX3_planDay_18 (by decide) (fun c18 => ?_) (fun c18 => ?_)
    · skip
      exact absurd c18 (by rw [hc.1]; exact nI_ge (by omega) (by omega))
    · skip
      refine EV_aload_n dX3_planDay_21 rfl ?_
      refine ES_getf dX3_planDay_22 fkX3_19 hn o_judge rfl ?_
      refine ES_getf dX3_planDay_25 fkX3_86 hn (by assumption) rfl ?_
      refine EV_iload_n dX3_planDay_28 rfl ?_
      refine ES_aaldF s14 dX3_planDay_29 hn (by omega) ?_
      refine EV_astore_n dX3_planDay_30 (Nat.le_of_ble_eq_true rfl) (Nat.le_of_ble_eq_true rfl) rfl ?_
      refine EV_aload_n dX3_planDay_31 rfl ?_
      refine EV_iload_n dX3_planDay_32 rfl ?_
      refine ES_callV dX3_planDay_33 mkX3_120 mfX1_isPlannedOn mvX1_isPlannedOn hn (by assumption) rfl (sp_isPlannedOn z k hFO _) rfl rfl (Nat.le_of_ble_eq_true rfl) ?_
      refine EV_if_eq 73 dX3_planDay_36 (by decide) (fun c36 => ?_) (fun c36 => ?_)
      · skip
        refine EV_iinc dX3_planDay_73 rfl (Nat.le_of_ble_eq_true rfl) rfl ?_
        refine EV_goto 10 dX3_planDay_76 (by decide) ?_
        rw [show nI i + Int32.ofInt 1 = nI (i + 1) from (nI_succ i).symm]
        have hp := dayStep_pl (σ := σ) (day := day) (i := i)
        simp only [dayL, dayStep, if_neg c18, if_pos c36] at hp ⊢
        exact ih (i + 1) _ _ rfl (hW.pl hp) (by omega)
      · skip
        refine EV_aload_n dX3_planDay_39 rfl ?_
        refine ES_getf dX3_planDay_40 fkX3_19 hn o_judge rfl ?_
        refine EV_aload_n dX3_planDay_43 rfl ?_
        refine ES_getf dX3_planDay_44 fkX3_90 hn (by assumption) rfl ?_
        refine ES_callV dX3_planDay_47 mkX3_123 mfX6_isCraft mvX6_isCraft hn (by assumption) rfl (sp_isCraft z (k + 1) s14 _) rfl rfl (Nat.le_of_ble_eq_true rfl) ?_
        refine EV_if_eq 73 dX3_planDay_50 (by decide) (fun c50 => ?_) (fun c50 => ?_)
        · skip
          refine EV_iinc dX3_planDay_73 rfl (Nat.le_of_ble_eq_true rfl) rfl ?_
          refine EV_goto 10 dX3_planDay_76 (by decide) ?_
          rw [show nI i + Int32.ofInt 1 = nI (i + 1) from (nI_succ i).symm]
          have hp := dayStep_pl (σ := σ) (day := day) (i := i)
          simp only [dayL, dayStep, if_neg c18, if_neg c36, if_pos c50] at hp ⊢
          exact ih (i + 1) _ _ rfl (hW.pl hp) (by omega)
        · skip
          have hin := vp_mono (isCraft_in hW.2.1.1 hW.2.1.2 c50) hW.2.1.2
          have hC := o_craft s14 (vp_lt hin)
          refine EV_aload_n dX3_planDay_53 rfl ?_
          refine EV_aload_n dX3_planDay_54 rfl ?_
          refine ES_getf dX3_planDay_55 fkX3_19 hn o_judge rfl ?_
          refine ES_getf dX3_planDay_58 fkX3_23 hn (by assumption) rfl ?_
          refine EV_aload_n dX3_planDay_61 rfl ?_
          refine ES_getf dX3_planDay_62 fkX3_90 hn (by assumption) rfl ?_
          refine ES_aaldC' s14 dX3_planDay_65 hn hin ?_
          refine EV_aload_n dX3_planDay_66 rfl ?_
          refine ES_getf dX3_planDay_67 fkX3_126 hn (by assumption) rfl ?_
          refine ES_callV dX3_planDay_70 mkX3_110 mfX3_plan mvX3_plan hn o_judge rfl (sp_plan σ hC hR) rfl rfl (Nat.le_of_ble_eq_true rfl) ?_
          refine EV_iinc dX3_planDay_73 rfl (Nat.le_of_ble_eq_true rfl) rfl ?_
          refine EV_goto 10 dX3_planDay_76 (by decide) ?_
          rw [show nI i + Int32.ofInt 1 = nI (i + 1) from (nI_succ i).symm]
          have hp := dayStep_pl (σ := σ) (day := day) (i := i)
          simp only [dayL, dayStep, if_neg c18, if_neg c36, if_neg c50] at hp ⊢
          exact ih (i + 1) _ _ rfl (hW.pl hp) (by omega)
theorem sp_planDay {σ : qσ} (day : Int32) {cc fc zc : Nat} (hW : WF σ 14 cc fc zc) : SP z (k + 2) mX3_planDay [.ref 108, .int day] σ none (planDayF σ day fc) := by
  refine SP_of 2 (by decide) (Nat.le_of_ble_eq_true rfl) fun X n hn => ?_
  refine EV_aload_n dX3_planDay_0 rfl ?_
  refine ES_getf dX3_planDay_1 fkX3_9 hn o_judge rfl ?_
  refine EV_iconst (v := 0) dX3_planDay_4 (by decide) ?_
  refine ES_callS dX3_planDay_5 mkX3_114 mfJ7_fill msJ7_fill hn (sp_fill z (k + 1) 0 a_planned (by omega)) rfl rfl (Nat.le_of_ble_eq_true rfl) ?_
  refine EV_iconst (v := 0) dX3_planDay_8 (by decide) ?_
  refine EV_istore_n dX3_planDay_9 (Nat.le_of_ble_eq_true rfl) (Nat.le_of_ble_eq_true rfl) rfl ?_
  exact lp_day hn day fc 0 _ _ rfl (hW.pl (Pl.rf.row _)) (by omega)
theorem sp_plannedNoise {σ : qσ} {c : Int32} (day : Int32) {cc fc zc : Nat} (hW : WF σ 14 cc fc zc) (hc : vp_in c 25) : SP z (k + 3) mX3_plannedNoise [.ref 108, .int c, .int day] σ (some (.int (planDayF σ day fc 109 c.toNatClampNeg))) (planDayF σ day fc) := by
  refine SP_of 0 (by decide) (Nat.le_of_ble_eq_true rfl) fun X n hn => ?_
  refine EV_aload_n dX3_plannedNoise_0 rfl ?_
  refine EV_iload_n dX3_plannedNoise_1 rfl ?_
  refine ES_callV dX3_plannedNoise_2 mkX3_106 mfX3_planDay mvX3_planDay hn o_judge rfl (sp_planDay day hW) rfl rfl (Nat.le_of_ble_eq_true rfl) ?_
  refine EV_aload_n dX3_plannedNoise_5 rfl ?_
  refine ES_getf dX3_plannedNoise_6 fkX3_9 hn o_judge rfl ?_
  refine EV_iload_n dX3_plannedNoise_9 rfl ?_
  refine ES_iald dX3_plannedNoise_10 hn a_planned hc ?_
  exact ES_iret dX3_plannedNoise_11 rfl rfl rfl rfl
/-! the reasons -/
def towerL (σ : qσ) (r : Nat) : Nat → Nat → Bool
  | 0, _ => false
  | j + 1, i => if bI (isCellF (atF σ r (nI i))) = 0 then towerL σ r j (i + 1) else if σ 4 (atF σ r (nI i)).toNatClampNeg = 0 then towerL σ r j (i + 1) else true
set_option maxHeartbeats 4000000 in
theorem lp_tower (hn : 112 ≤ n) {σ : qσ} {r : Nat} (hr : okRt σ r) : ∀ (j i : Nat) (w3 : Value), w3.category = 1 → i + j = cntF σ r → EV z (k + 1) mX3_meetsTower 2 [.ref 108, .ref r, .int (nI i), w3] [] (mm σ X) n 0 0 (qRes (some (.int (bI (towerL σ r j i)))) (mm σ X) n) := by
  have hO := hr.1.1
  have hq := hr.cnt
  intro j
  induction j with
  | zero =>
    intro i w3 h3 hi
    refine EV_iload_n dX3_meetsTower_2 rfl ?_
    refine EV_aload_n dX3_meetsTower_3 rfl ?_
    refine ES_getf dX3_meetsTower_4 fkX3_59 hn (by assumption) rfl ?_
    refine EV_icmp_ge 43 dX3_meetsTower_7 (by decide) (fun c7 => ?_) (fun c7 => ?_)
    · skip
      refine EV_iconst (v := 0) dX3_meetsTower_43 (by decide) ?_
      exact ES_iret dX3_meetsTower_44 rfl rfl rfl rfl
    · skip
      exact absurd (by rw [hq.1]; exact nI_le (by omega) (by omega)) c7
  | succ j ih =>
    intro i w3 h3 hi
    refine EV_iload_n dX3_meetsTower_2 rfl ?_
    refine EV_aload_n dX3_meetsTower_3 rfl ?_
    refine ES_getf dX3_meetsTower_4 fkX3_59 hn (by assumption) rfl ?_
    refine EV_icmp_ge 43 dX3_meetsTower_7 (by decide) (fun c7 => ?_) (fun c7 => ?_)
    · skip
      exact absurd c7 (by rw [hq.1]; exact nI_ge (by omega) (by omega))
    · skip
      refine EV_aload_n dX3_meetsTower_10 rfl ?_
      refine EV_iload_n dX3_meetsTower_11 rfl ?_
      refine ES_callV dX3_meetsTower_12 mkX3_64 mfX4_at mvX4_at hn (by assumption) rfl (sp_at z k hr.1.1 hr.1.2 _) rfl rfl (Nat.le_of_ble_eq_true rfl) ?_
      refine EV_istore_n dX3_meetsTower_15 (Nat.le_of_ble_eq_true rfl) (Nat.le_of_ble_eq_true rfl) rfl ?_
      refine EV_iload_n dX3_meetsTower_16 rfl ?_
      refine ES_callS dX3_meetsTower_17 mkX3_68 mfX8_isCell msX8_isCell hn (sp_isCell z k _) rfl rfl (Nat.le_of_ble_eq_true rfl) ?_
      refine EV_if_eq 37 dX3_meetsTower_20 (by decide) (fun c20 => ?_) (fun c20 => ?_)
      · skip
        refine EV_iinc dX3_meetsTower_37 rfl (Nat.le_of_ble_eq_true rfl) rfl ?_
        refine EV_goto 2 dX3_meetsTower_40 (by decide) ?_
        rw [show nI i + Int32.ofInt 1 = nI (i + 1) from (nI_succ i).symm]
        simp only [towerL, if_neg c7, if_pos c20]
        exact ih (i + 1) _ rfl (by omega)
      · skip
        refine EV_aload_n dX3_meetsTower_23 rfl ?_
        refine ES_getf dX3_meetsTower_24 fkX3_15 hn o_judge rfl ?_
        refine ES_getf dX3_meetsTower_27 fkX3_72 hn o_ground rfl ?_
        refine EV_iload_n dX3_meetsTower_30 rfl ?_
        refine ES_zald dX3_meetsTower_31 hn a_towers (isCell_in c20) ?_
        refine EV_if_eq 37 dX3_meetsTower_32 (by decide) (fun c32 => ?_) (fun c32 => ?_)
        · skip
          refine EV_iinc dX3_meetsTower_37 rfl (Nat.le_of_ble_eq_true rfl) rfl ?_
          refine EV_goto 2 dX3_meetsTower_40 (by decide) ?_
          rw [show nI i + Int32.ofInt 1 = nI (i + 1) from (nI_succ i).symm]
          simp only [towerL, if_neg c7, if_neg c20, if_pos c32]
          exact ih (i + 1) _ rfl (by omega)
        · skip
          refine EV_iconst (v := 1) dX3_meetsTower_35 (by decide) ?_
          exact ES_iret dX3_meetsTower_36 rfl rfl (by simp only [towerL, if_neg c7, if_neg c20, if_neg c32]; try rfl) rfl
theorem sp_meetsTower {σ : qσ} {r : Nat} (hr : okRt σ r) : SP z (k + 1) mX3_meetsTower [.ref 108, .ref r] σ (some (.int (bI (towerL σ r (cntF σ r) 0)))) σ := by
  refine SP_of 2 (by decide) (Nat.le_of_ble_eq_true rfl) fun X n hn => ?_
  refine EV_iconst (v := 0) dX3_meetsTower_0 (by decide) ?_
  refine EV_istore_n dX3_meetsTower_1 (Nat.le_of_ble_eq_true rfl) (Nat.le_of_ble_eq_true rfl) rfl ?_
  exact lp_tower hn hr _ 0 _ rfl (by omega)
def zoneInL (σ : qσ) (r rc zc i : Nat) : Nat → Nat → Bool
  | 0, _ => false
  | j + 1, t => if bI (isShutF σ zc (atF σ r (nI i)) (σ rc 0) (nI t)) = 0 then zoneInL σ r rc zc i j (t + 1) else true
def zoneL (σ : qσ) (r rc zc st : Nat) : Nat → Nat → Bool
  | 0, _ => false
  | j + 1, i => if zoneInL σ r rc zc i 3 (st + 2 * i - 1) = true then true else zoneL σ r rc zc st j (i + 1)
set_option maxHeartbeats 4000000 in
theorem lp_zoneIn (hn : 112 ≤ n) {σ : qσ} {r rc cc fc zc i th : Nat} (hW : WF σ 14 cc fc zc) (hr : okRt σ r) (hc : isO 0 rc) (w3 : Value) (hth : th < 2 ^ 30) (rest : Bool)
    (kk : ∀ w6 : Value, w6.category = 1 → EV z (k + 2) mX3_meetsZone 65 [.ref 108, .ref rc, .ref r, w3, .int (nI i), .int (nI th), w6] [] (mm σ X) n 0 0 (qRes (some (.int (bI rest))) (mm σ X) n)) : ∀ (j t : Nat), t + j = th + 2 → EV z (k + 2) mX3_meetsZone 26 [.ref 108, .ref rc, .ref r, w3, .int (nI i), .int (nI th), .int (nI t)] [] (mm σ X) n 0 0 (qRes (some (.int (bI (if zoneInL σ r rc zc i j t = true then true else rest)))) (mm σ X) n) := by
  have hO := hr.1.1
  intro j
  induction j with
  | zero =>
    intro t ht
    refine EV_iload dX3_meetsZone_26 rfl ?_
    refine EV_iload dX3_meetsZone_28 rfl ?_
    refine EV_iconst (v := 1) dX3_meetsZone_30 (by decide) ?_
    refine EV_iadd dX3_meetsZone_31 ?_
    refine EV_icmp_gt 65 dX3_meetsZone_32 (by decide) (fun c32 => ?_) (fun c32 => ?_)
    · skip
      exact kk _ rfl
    · skip
      exact absurd (show nI th + 1 < nI t by rw [← nI_succ]; exact nI_lt (by omega) (by omega)) c32
  | succ j ih =>
    intro t ht
    refine EV_iload dX3_meetsZone_26 rfl ?_
    refine EV_iload dX3_meetsZone_28 rfl ?_
    refine EV_iconst (v := 1) dX3_meetsZone_30 (by decide) ?_
    refine EV_iadd dX3_meetsZone_31 ?_
    refine EV_icmp_gt 65 dX3_meetsZone_32 (by decide) (fun c32 => ?_) (fun c32 => ?_)
    · skip
      exact absurd c32 (by rw [show nI th + 1 = nI (th + 1) from (nI_succ th).symm]; exact nI_nlt (by omega) (by omega))
    · skip
      refine EV_aload_n dX3_meetsZone_35 rfl ?_
      refine ES_getf dX3_meetsZone_36 fkX3_15 hn o_judge rfl ?_
      refine EV_aload_n dX3_meetsZone_39 rfl ?_
      refine EV_iload dX3_meetsZone_40 rfl ?_
      refine ES_callV dX3_meetsZone_42 mkX3_64 mfX4_at mvX4_at hn (by assumption) rfl (sp_at z (k + 1) hr.1.1 hr.1.2 _) rfl rfl (Nat.le_of_ble_eq_true rfl) ?_
      refine EV_aload_n dX3_meetsZone_45 rfl ?_
      refine ES_getf dX3_meetsZone_46 fkX3_76 hn (by assumption) rfl ?_
      refine EV_iload dX3_meetsZone_49 rfl ?_
      refine ES_callV dX3_meetsZone_51 mkX3_79 mfX2_isShut mvX2_isShut hn o_ground rfl (sp_isShut z k hW.2.2.2.1.1 hW.2.2.2.1.2 _ _ _) rfl rfl (Nat.le_of_ble_eq_true rfl) ?_
      refine EV_if_eq 59 dX3_meetsZone_54 (by decide) (fun c54 => ?_) (fun c54 => ?_)
      · skip
        refine EV_iinc dX3_meetsZone_59 rfl (Nat.le_of_ble_eq_true rfl) rfl ?_
        refine EV_goto 26 dX3_meetsZone_62 (by decide) ?_
        rw [show nI t + Int32.ofInt 1 = nI (t + 1) from (nI_succ t).symm]
        simp only [zoneInL, if_neg c32, if_pos c54]
        exact ih (t + 1) (by omega)
      · skip
        refine EV_iconst (v := 1) dX3_meetsZone_57 (by decide) ?_
        exact ES_iret dX3_meetsZone_58 rfl rfl (by simp only [zoneInL, if_neg c32, if_neg c54]; try rfl) rfl
theorem there_eq (st i : Nat) : nI st + 2 * nI i = nI (st + 2 * i) := by
  rw [show (2 : Int32) = nI 2 from rfl, pk_mul, nI_add]
set_option maxHeartbeats 4000000 in
theorem lp_zone (hn : 112 ≤ n) {σ : qσ} {r rc cc fc zc st : Nat} (hW : WF σ 14 cc fc zc) (hr : okRt σ r) (hc : isO 0 rc) (hst : 0 < st ∧ st < 2 ^ 20) : ∀ (j i : Nat) (w5 w6 : Value), w5.category = 1 → w6.category = 1 → i + j = cntF σ r → EV z (k + 2) mX3_meetsZone 3 [.ref 108, .ref rc, .ref r, .int (nI st), .int (nI i), w5, w6] [] (mm σ X) n 0 0 (qRes (some (.int (bI (zoneL σ r rc zc st j i)))) (mm σ X) n) := by
  have hO := hr.1.1
  have hq := hr.cnt
  intro j
  induction j with
  | zero =>
    intro i w5 w6 h5 h6 hi
    refine EV_iload dX3_meetsZone_3 rfl ?_
    refine EV_aload_n dX3_meetsZone_5 rfl ?_
    refine ES_getf dX3_meetsZone_6 fkX3_59 hn (by assumption) rfl ?_
    refine EV_icmp_ge 71 dX3_meetsZone_9 (by decide) (fun c9 => ?_) (fun c9 => ?_)
    · skip
      refine EV_iconst (v := 0) dX3_meetsZone_71 (by decide) ?_
      exact ES_iret dX3_meetsZone_72 rfl rfl rfl rfl
    · skip
      exact absurd (by rw [hq.1]; exact nI_le (by omega) (by omega)) c9
  | succ j ih =>
    intro i w5 w6 h5 h6 hi
    refine EV_iload dX3_meetsZone_3 rfl ?_
    refine EV_aload_n dX3_meetsZone_5 rfl ?_
    refine ES_getf dX3_meetsZone_6 fkX3_59 hn (by assumption) rfl ?_
    refine EV_icmp_ge 71 dX3_meetsZone_9 (by decide) (fun c9 => ?_) (fun c9 => ?_)
    · skip
      exact absurd c9 (by rw [hq.1]; exact nI_ge (by omega) (by omega))
    · skip
      refine EV_iload_n dX3_meetsZone_12 rfl ?_
      refine EV_iconst (v := 2) dX3_meetsZone_13 (by decide) ?_
      refine EV_iload dX3_meetsZone_14 rfl ?_
      refine EV_imul dX3_meetsZone_16 ?_
      refine EV_iadd dX3_meetsZone_17 ?_
      rw [there_eq]
      refine EV_istore dX3_meetsZone_18 (Nat.le_of_ble_eq_true rfl) (Nat.le_of_ble_eq_true rfl) rfl ?_
      refine EV_iload dX3_meetsZone_20 rfl ?_
      refine EV_iconst (v := 1) dX3_meetsZone_22 (by decide) ?_
      refine EV_isub dX3_meetsZone_23 ?_
      rw [show nI (st + 2 * i) - 1 = nI (st + 2 * i - 1) from by
        obtain ⟨v, hv⟩ : ∃ v, st + 2 * i = v + 1 := ⟨st + 2 * i - 1, by omega⟩
        rw [hv, nI_pred, Nat.add_sub_cancel]]
      refine EV_istore dX3_meetsZone_24 (Nat.le_of_ble_eq_true rfl) (Nat.le_of_ble_eq_true rfl) rfl ?_
      rw [zoneL]
      refine lp_zoneIn hn hW hr hc _ (by omega) (zoneL σ r rc zc st j (i + 1)) (fun w6 g6 => ?_) 3 _ (by omega)
      refine EV_iinc dX3_meetsZone_65 rfl (Nat.le_of_ble_eq_true rfl) rfl ?_
      refine EV_goto 3 dX3_meetsZone_68 (by decide) ?_
      rw [show nI i + Int32.ofInt 1 = nI (i + 1) from (nI_succ i).symm]
      exact ih (i + 1) _ _ rfl g6 (by omega)
theorem sp_meetsZone {σ : qσ} {r rc cc fc zc st : Nat} (hW : WF σ 14 cc fc zc) (hr : okRt σ r) (hc : isO 0 rc) (hst : 0 < st ∧ st < 2 ^ 20) : SP z (k + 2) mX3_meetsZone [.ref 108, .ref rc, .ref r, .int (nI st)] σ (some (.int (bI (zoneL σ r rc zc st (cntF σ r) 0)))) σ := by
  refine SP_of 3 (by decide) (Nat.le_of_ble_eq_true rfl) fun X n hn => ?_
  refine EV_iconst (v := 0) dX3_meetsZone_0 (by decide) ?_
  refine EV_istore dX3_meetsZone_1 (Nat.le_of_ble_eq_true rfl) (Nat.le_of_ble_eq_true rfl) rfl ?_
  exact lp_zone hn hW hr hc hst _ 0 _ _ rfl rfl (by omega)
def othersL (σ : qσ) (num : Int32) (r : Nat) (st : Int32) : Nat → Nat → Bool
  | 0, _ => false
  | j + 1, i => if σ (14 + 10 + 3 * i) 0 = num then othersL σ num r st j (i + 1) else if bI (aheadF (σ (14 + 10 + 3 * i))) = 0 then othersL σ num r st j (i + 1)
      else if bI (closeF σ (14 + 10 + 3 * i) r st) = 0 then othersL σ num r st j (i + 1) else if bI (meetL σ (14 + 10 + 3 * i) r st (cntF σ r) (cntF σ (14 + 10 + 3 * i + 1)) 0) = 0 then othersL σ num r st j (i + 1) else true
set_option maxHeartbeats 4000000 in
theorem lp_others (hn : 112 ≤ n) {σ : qσ} {r cc fc zc : Nat} (hW : WF σ 14 cc fc zc) (hr : okRt σ r) (num st : Int32) : ∀ (j i : Nat) (w5 : Value), w5.category = 1 → i + j = fc → EV z (k + 2) mX3_meetsOthers 3 [.ref 108, .int num, .ref r, .int st, .int (nI i), w5] [] (mm σ X) n 0 0 (qRes (some (.int (bI (othersL σ num r st j i)))) (mm σ X) n) := by
  have hO := o_sky s14
  have hc := hW.2.2.1
  intro j
  induction j with
  | zero =>
    intro i w5 h5 hi
    refine EV_iload dX3_meetsOthers_3 rfl ?_
    refine EV_aload_n dX3_meetsOthers_5 rfl ?_
    refine ES_getf dX3_meetsOthers_6 fkX3_19 hn o_judge rfl ?_
    refine ES_getf dX3_meetsOthers_9 fkX3_83 hn (by assumption) rfl ?_
    refine EV_icmp_ge 72 dX3_meetsOthers_12 (by decide) (fun c12 => ?_) (fun c12 => ?_)
    · skip
      refine EV_iconst (v := 0) dX3_meetsOthers_72 (by decide) ?_
      exact ES_iret dX3_meetsOthers_73 rfl rfl rfl rfl
    · skip
      exact absurd (by rw [hc.1]; exact nI_le (by omega) (by omega)) c12
  | succ j ih =>
    intro i w5 h5 hi
    have hF := fl_of s14 (show i < 12 by omega)
    have hFO := hF.1
    have hR := hW.rt (show i < 12 by omega)
    have q1 := hr.cnt
    have q2 := hR.cnt
    refine EV_iload dX3_meetsOthers_3 rfl ?_
    refine EV_aload_n dX3_meetsOthers_5 rfl ?_
    refine ES_getf dX3_meetsOthers_6 fkX3_19 hn o_judge rfl ?_
    refine ES_getf dX3_meetsOthers_9 fkX3_83 hn (by assumption) rfl ?_
    refine EV_icmp_ge 72 dX3_meetsOthers_12 (by decide) (fun c12 => ?_) (fun c12 => ?_)
    · skip
      exact absurd c12 (by rw [hc.1]; exact nI_ge (by omega) (by omega))
    · skip
      refine EV_aload_n dX3_meetsOthers_15 rfl ?_
      refine ES_getf dX3_meetsOthers_16 fkX3_19 hn o_judge rfl ?_
      refine ES_getf dX3_meetsOthers_19 fkX3_86 hn (by assumption) rfl ?_
      refine EV_iload dX3_meetsOthers_22 rfl ?_
      refine ES_aaldF s14 dX3_meetsOthers_24 hn (by omega) ?_
      refine EV_astore dX3_meetsOthers_25 (Nat.le_of_ble_eq_true rfl) (Nat.le_of_ble_eq_true rfl) rfl ?_
      refine EV_aload dX3_meetsOthers_27 rfl ?_
      refine ES_getf dX3_meetsOthers_29 fkX3_90 hn (by assumption) rfl ?_
      refine EV_iload_n dX3_meetsOthers_32 rfl ?_
      refine EV_icmp_eq 66 dX3_meetsOthers_33 (by decide) (fun c33 => ?_) (fun c33 => ?_)
      · skip
        refine EV_iinc dX3_meetsOthers_66 rfl (Nat.le_of_ble_eq_true rfl) rfl ?_
        refine EV_goto 3 dX3_meetsOthers_69 (by decide) ?_
        rw [show nI i + Int32.ofInt 1 = nI (i + 1) from (nI_succ i).symm]
        simp only [othersL, if_neg c12, if_pos c33]
        exact ih (i + 1) _ rfl (by omega)
      · skip
        refine EV_aload dX3_meetsOthers_36 rfl ?_
        refine ES_callV dX3_meetsOthers_38 mkX3_95 mfX1_isAhead mvX1_isAhead hn (by assumption) rfl (sp_isAhead z (k + 1) hFO) rfl rfl (Nat.le_of_ble_eq_true rfl) ?_
        refine EV_if_eq 66 dX3_meetsOthers_41 (by decide) (fun c41 => ?_) (fun c41 => ?_)
        · skip
          refine EV_iinc dX3_meetsOthers_66 rfl (Nat.le_of_ble_eq_true rfl) rfl ?_
          refine EV_goto 3 dX3_meetsOthers_69 (by decide) ?_
          rw [show nI i + Int32.ofInt 1 = nI (i + 1) from (nI_succ i).symm]
          simp only [othersL, if_neg c12, if_neg c33, if_pos c41]
          exact ih (i + 1) _ rfl (by omega)
        · skip
          refine EV_aload dX3_meetsOthers_44 rfl ?_
          refine EV_aload_n dX3_meetsOthers_46 rfl ?_
          refine EV_iload_n dX3_meetsOthers_47 rfl ?_
          refine ES_callV dX3_meetsOthers_48 mkX3_99 mfX1_isCloseInTime mvX1_isCloseInTime hn (by assumption) rfl (sp_isClose z k hF hr.1 _) rfl rfl (Nat.le_of_ble_eq_true rfl) ?_
          refine EV_if_eq 66 dX3_meetsOthers_51 (by decide) (fun c51 => ?_) (fun c51 => ?_)
          · skip
            refine EV_iinc dX3_meetsOthers_66 rfl (Nat.le_of_ble_eq_true rfl) rfl ?_
            refine EV_goto 3 dX3_meetsOthers_69 (by decide) ?_
            rw [show nI i + Int32.ofInt 1 = nI (i + 1) from (nI_succ i).symm]
            simp only [othersL, if_neg c12, if_neg c33, if_neg c41, if_pos c51]
            exact ih (i + 1) _ rfl (by omega)
          · skip
            refine EV_aload dX3_meetsOthers_54 rfl ?_
            refine EV_aload_n dX3_meetsOthers_56 rfl ?_
            refine EV_iload_n dX3_meetsOthers_57 rfl ?_
            refine ES_callV dX3_meetsOthers_58 mkX3_103 mfX1_meets mvX1_meets hn (by assumption) rfl (sp_meets z k hF hr.1 q1.1 (by omega) q2.1 (by omega) _) rfl rfl (Nat.le_of_ble_eq_true rfl) ?_
            refine EV_if_eq 66 dX3_meetsOthers_61 (by decide) (fun c61 => ?_) (fun c61 => ?_)
            · skip
              refine EV_iinc dX3_meetsOthers_66 rfl (Nat.le_of_ble_eq_true rfl) rfl ?_
              refine EV_goto 3 dX3_meetsOthers_69 (by decide) ?_
              rw [show nI i + Int32.ofInt 1 = nI (i + 1) from (nI_succ i).symm]
              simp only [othersL, if_neg c12, if_neg c33, if_neg c41, if_neg c51, if_pos c61]
              exact ih (i + 1) _ rfl (by omega)
            · skip
              refine EV_iconst (v := 1) dX3_meetsOthers_64 (by decide) ?_
              exact ES_iret dX3_meetsOthers_65 rfl rfl (by simp only [othersL, if_neg c12, if_neg c33, if_neg c41, if_neg c51, if_neg c61]; try rfl) rfl
theorem sp_meetsOthers {σ : qσ} {r cc fc zc : Nat} (hW : WF σ 14 cc fc zc) (hr : okRt σ r) (num st : Int32) : SP z (k + 2) mX3_meetsOthers [.ref 108, .int num, .ref r, .int st] σ (some (.int (bI (othersL σ num r st fc 0)))) σ := by
  refine SP_of 2 (by decide) (Nat.le_of_ble_eq_true rfl) fun X n hn => ?_
  refine EV_iconst (v := 0) dX3_meetsOthers_0 (by decide) ?_
  refine EV_istore dX3_meetsOthers_1 (Nat.le_of_ble_eq_true rfl) (Nat.le_of_ble_eq_true rfl) rfl ?_
  exact lp_others hn hW hr num st fc 0 _ rfl (by omega)
def itselfL (σ : qσ) (num : Int32) (r : Nat) (st : Int32) : Nat → Nat → Bool
  | 0, _ => false
  | j + 1, i => if σ (14 + 10 + 3 * i) 0 = num then (if bI (aheadF (σ (14 + 10 + 3 * i))) = 0 then itselfL σ num r st j (i + 1)
      else if bI (closeF σ (14 + 10 + 3 * i) r st) = 0 then itselfL σ num r st j (i + 1) else true) else itselfL σ num r st j (i + 1)
set_option maxHeartbeats 4000000 in
theorem lp_itself (hn : 112 ≤ n) {σ : qσ} {r cc fc zc : Nat} (hW : WF σ 14 cc fc zc) (hr : okRt σ r) (num st : Int32) : ∀ (j i : Nat) (w5 : Value), w5.category = 1 → i + j = fc → EV z (k + 2) mX3_meetsItself 3 [.ref 108, .int num, .ref r, .int st, .int (nI i), w5] [] (mm σ X) n 0 0 (qRes (some (.int (bI (itselfL σ num r st j i)))) (mm σ X) n) := by
  have hO := o_sky s14
  have hc := hW.2.2.1
  intro j
  induction j with
  | zero =>
    intro i w5 h5 hi
    refine EV_iload dX3_meetsItself_3 rfl ?_
    refine EV_aload_n dX3_meetsItself_5 rfl ?_
    refine ES_getf dX3_meetsItself_6 fkX3_19 hn o_judge rfl ?_
    refine ES_getf dX3_meetsItself_9 fkX3_83 hn (by assumption) rfl ?_
    refine EV_icmp_ge 62 dX3_meetsItself_12 (by decide) (fun c12 => ?_) (fun c12 => ?_)
    · skip
      refine EV_iconst (v := 0) dX3_meetsItself_62 (by decide) ?_
      exact ES_iret dX3_meetsItself_63 rfl rfl rfl rfl
    · skip
      exact absurd (by rw [hc.1]; exact nI_le (by omega) (by omega)) c12
  | succ j ih =>
    intro i w5 h5 hi
    have hF := fl_of s14 (show i < 12 by omega)
    have hFO := hF.1
    refine EV_iload dX3_meetsItself_3 rfl ?_
    refine EV_aload_n dX3_meetsItself_5 rfl ?_
    refine ES_getf dX3_meetsItself_6 fkX3_19 hn o_judge rfl ?_
    refine ES_getf dX3_meetsItself_9 fkX3_83 hn (by assumption) rfl ?_
    refine EV_icmp_ge 62 dX3_meetsItself_12 (by decide) (fun c12 => ?_) (fun c12 => ?_)
    · skip
      exact absurd c12 (by rw [hc.1]; exact nI_ge (by omega) (by omega))
    · skip
      refine EV_aload_n dX3_meetsItself_15 rfl ?_
      refine ES_getf dX3_meetsItself_16 fkX3_19 hn o_judge rfl ?_
      refine ES_getf dX3_meetsItself_19 fkX3_86 hn (by assumption) rfl ?_
      refine EV_iload dX3_meetsItself_22 rfl ?_
      refine ES_aaldF s14 dX3_meetsItself_24 hn (by omega) ?_
      refine EV_astore dX3_meetsItself_25 (Nat.le_of_ble_eq_true rfl) (Nat.le_of_ble_eq_true rfl) rfl ?_
      refine EV_aload dX3_meetsItself_27 rfl ?_
      refine ES_getf dX3_meetsItself_29 fkX3_90 hn (by assumption) rfl ?_
      refine EV_iload_n dX3_meetsItself_32 rfl ?_
      refine EV_icmp_ne 56 dX3_meetsItself_33 (by decide) (fun c33 => ?_) (fun c33 => ?_)
      · skip
        refine EV_iinc dX3_meetsItself_56 rfl (Nat.le_of_ble_eq_true rfl) rfl ?_
        refine EV_goto 3 dX3_meetsItself_59 (by decide) ?_
        rw [show nI i + Int32.ofInt 1 = nI (i + 1) from (nI_succ i).symm]
        simp only [itselfL, if_neg c12, if_neg c33]
        exact ih (i + 1) _ rfl (by omega)
      · skip
        refine EV_aload dX3_meetsItself_36 rfl ?_
        refine ES_callV dX3_meetsItself_38 mkX3_95 mfX1_isAhead mvX1_isAhead hn (by assumption) rfl (sp_isAhead z (k + 1) hFO) rfl rfl (Nat.le_of_ble_eq_true rfl) ?_
        refine EV_if_eq 56 dX3_meetsItself_41 (by decide) (fun c41 => ?_) (fun c41 => ?_)
        · skip
          refine EV_iinc dX3_meetsItself_56 rfl (Nat.le_of_ble_eq_true rfl) rfl ?_
          refine EV_goto 3 dX3_meetsItself_59 (by decide) ?_
          rw [show nI i + Int32.ofInt 1 = nI (i + 1) from (nI_succ i).symm]
          simp only [itselfL, if_neg c12, if_pos c33, if_pos c41]
          exact ih (i + 1) _ rfl (by omega)
        · skip
          refine EV_aload dX3_meetsItself_44 rfl ?_
          refine EV_aload_n dX3_meetsItself_46 rfl ?_
          refine EV_iload_n dX3_meetsItself_47 rfl ?_
          refine ES_callV dX3_meetsItself_48 mkX3_99 mfX1_isCloseInTime mvX1_isCloseInTime hn (by assumption) rfl (sp_isClose z k hF hr.1 _) rfl rfl (Nat.le_of_ble_eq_true rfl) ?_
          refine EV_if_eq 56 dX3_meetsItself_51 (by decide) (fun c51 => ?_) (fun c51 => ?_)
          · skip
            refine EV_iinc dX3_meetsItself_56 rfl (Nat.le_of_ble_eq_true rfl) rfl ?_
            refine EV_goto 3 dX3_meetsItself_59 (by decide) ?_
            rw [show nI i + Int32.ofInt 1 = nI (i + 1) from (nI_succ i).symm]
            simp only [itselfL, if_neg c12, if_pos c33, if_neg c41, if_pos c51]
            exact ih (i + 1) _ rfl (by omega)
          · skip
            refine EV_iconst (v := 1) dX3_meetsItself_54 (by decide) ?_
            exact ES_iret dX3_meetsItself_55 rfl rfl (by simp only [itselfL, if_neg c12, if_pos c33, if_neg c41, if_neg c51]; try rfl) rfl
theorem sp_meetsItself {σ : qσ} {r cc fc zc : Nat} (hW : WF σ 14 cc fc zc) (hr : okRt σ r) (num st : Int32) : SP z (k + 2) mX3_meetsItself [.ref 108, .int num, .ref r, .int st] σ (some (.int (bI (itselfL σ num r st fc 0)))) σ := by
  refine SP_of 2 (by decide) (Nat.le_of_ble_eq_true rfl) fun X n hn => ?_
  refine EV_iconst (v := 0) dX3_meetsItself_0 (by decide) ?_
  refine EV_istore dX3_meetsItself_1 (Nat.le_of_ble_eq_true rfl) (Nat.le_of_ble_eq_true rfl) rfl ?_
  exact lp_itself hn hW hr num st fc 0 _ rfl (by omega)
def loudL (σ : qσ) (r : Nat) : Nat → Nat → Bool
  | 0, _ => false
  | j + 1, i => if bI (isCellF (atF σ r (nI i))) = 0 then loudL σ r j (i + 1) else if σ 109 (atF σ r (nI i)).toNatClampNeg ≤ 60 then loudL σ r j (i + 1) else true
def loudS (σ : qσ) (rc r : Nat) (st : Int32) (fc : Nat) : qσ := planL rc r (cntF (planDayF σ (st / 1440) fc) r) 0 (planDayF σ (st / 1440) fc)
theorem loudS_pl {σ : qσ} {rc r : Nat} {st : Int32} {fc : Nat} : Pl σ (loudS σ rc r st fc) := planDay_pl.tr (planL_pl _ _ _)
set_option maxHeartbeats 4000000 in
theorem lp_loud (hn : 112 ≤ n) {σ : qσ} {r : Nat} (hr : okRt σ r) (w1 : Value) (w3 : Int32) : ∀ (j i : Nat) (w5 : Value), w5.category = 1 → i + j = cntF σ r → EV z (k + 1) mX3_isTooLoud 18 [.ref 108, w1, .ref r, .int w3, .int (nI i), w5] [] (mm σ X) n 0 0 (qRes (some (.int (bI (loudL σ r j i)))) (mm σ X) n) := by
  have hO := hr.1.1
  have hq := hr.cnt
  intro j
  induction j with
  | zero =>
    intro i w5 h5 hi
    refine EV_iload dX3_isTooLoud_18 rfl ?_
    refine EV_aload_n dX3_isTooLoud_20 rfl ?_
    refine ES_getf dX3_isTooLoud_21 fkX3_59 hn (by assumption) rfl ?_
    refine EV_icmp_ge 63 dX3_isTooLoud_24 (by decide) (fun c24 => ?_) (fun c24 => ?_)
    · skip
      refine EV_iconst (v := 0) dX3_isTooLoud_63 (by decide) ?_
      exact ES_iret dX3_isTooLoud_64 rfl rfl rfl rfl
    · skip
      exact absurd (by rw [hq.1]; exact nI_le (by omega) (by omega)) c24
  | succ j ih =>
    intro i w5 h5 hi
    refine EV_iload dX3_isTooLoud_18 rfl ?_
    refine EV_aload_n dX3_isTooLoud_20 rfl ?_
    refine ES_getf dX3_isTooLoud_21 fkX3_59 hn (by assumption) rfl ?_
    refine EV_icmp_ge 63 dX3_isTooLoud_24 (by decide) (fun c24 => ?_) (fun c24 => ?_)
    · skip
      exact absurd c24 (by rw [hq.1]; exact nI_ge (by omega) (by omega))
    · skip
      refine EV_aload_n dX3_isTooLoud_27 rfl ?_
      refine EV_iload dX3_isTooLoud_28 rfl ?_
      refine ES_callV dX3_isTooLoud_30 mkX3_64 mfX4_at mvX4_at hn (by assumption) rfl (sp_at z k hr.1.1 hr.1.2 _) rfl rfl (Nat.le_of_ble_eq_true rfl) ?_
      refine EV_istore dX3_isTooLoud_33 (Nat.le_of_ble_eq_true rfl) (Nat.le_of_ble_eq_true rfl) rfl ?_
      refine EV_iload dX3_isTooLoud_35 rfl ?_
      refine ES_callS dX3_isTooLoud_37 mkX3_68 mfX8_isCell msX8_isCell hn (sp_isCell z k _) rfl rfl (Nat.le_of_ble_eq_true rfl) ?_
      refine EV_if_eq 57 dX3_isTooLoud_40 (by decide) (fun c40 => ?_) (fun c40 => ?_)
      · skip
        refine EV_iinc dX3_isTooLoud_57 rfl (Nat.le_of_ble_eq_true rfl) rfl ?_
        refine EV_goto 18 dX3_isTooLoud_60 (by decide) ?_
        rw [show nI i + Int32.ofInt 1 = nI (i + 1) from (nI_succ i).symm]
        simp only [loudL, if_neg c24, if_pos c40]
        exact ih (i + 1) _ rfl (by omega)
      · skip
        refine EV_aload_n dX3_isTooLoud_43 rfl ?_
        refine ES_getf dX3_isTooLoud_44 fkX3_9 hn o_judge rfl ?_
        refine EV_iload dX3_isTooLoud_47 rfl ?_
        refine ES_iald dX3_isTooLoud_49 hn a_planned (isCell_in c40) ?_
        refine EV_bipush (v := 60) dX3_isTooLoud_50 (by decide) ?_
        refine EV_icmp_le 57 dX3_isTooLoud_52 (by decide) (fun c52 => ?_) (fun c52 => ?_)
        · skip
          refine EV_iinc dX3_isTooLoud_57 rfl (Nat.le_of_ble_eq_true rfl) rfl ?_
          refine EV_goto 18 dX3_isTooLoud_60 (by decide) ?_
          rw [show nI i + Int32.ofInt 1 = nI (i + 1) from (nI_succ i).symm]
          simp only [loudL, if_neg c24, if_neg c40, if_pos c52]
          exact ih (i + 1) _ rfl (by omega)
        · skip
          refine EV_iconst (v := 1) dX3_isTooLoud_55 (by decide) ?_
          exact ES_iret dX3_isTooLoud_56 rfl rfl (by simp only [loudL, if_neg c24, if_neg c40, if_neg c52]; try rfl) rfl
def loudB (σ : qσ) (rc r : Nat) (st : Int32) (fc : Nat) : Bool := loudL (loudS σ rc r st fc) r (cntF (loudS σ rc r st fc) r) 0
set_option maxHeartbeats 4000000 in
theorem sp_isTooLoud {σ : qσ} {r rc cc fc zc : Nat} (hW : WF σ 14 cc fc zc) (hr : okRt σ r) (hc : isO 0 rc) (st : Int32) : SP z (k + 3) mX3_isTooLoud [.ref 108, .ref rc, .ref r, .int st] σ (some (.int (bI (loudB σ rc r st fc)))) (loudS σ rc r st fc) := by
  refine SP_of 2 (by decide) (Nat.le_of_ble_eq_true rfl) fun X n hn => ?_
  refine EV_aload_n dX3_isTooLoud_0 rfl ?_
  refine EV_iload_n dX3_isTooLoud_1 rfl ?_
  refine EV_sipush (v := 1440) dX3_isTooLoud_2 (by decide) ?_
  refine EV_idiv dX3_isTooLoud_5 (by decide) ?_
  refine ES_callV dX3_isTooLoud_6 mkX3_106 mfX3_planDay mvX3_planDay hn o_judge rfl (sp_planDay _ hW) rfl rfl (Nat.le_of_ble_eq_true rfl) ?_
  refine EV_aload_n dX3_isTooLoud_9 rfl ?_
  refine EV_aload_n dX3_isTooLoud_10 rfl ?_
  refine EV_aload_n dX3_isTooLoud_11 rfl ?_
  refine ES_callV dX3_isTooLoud_12 mkX3_110 mfX3_plan mvX3_plan hn o_judge rfl (sp_plan (k := k + 1) (planDayF σ (st / 1440) fc) hc (hr.pl planDay_pl)) rfl rfl (Nat.le_of_ble_eq_true rfl) ?_
  refine EV_iconst (v := 0) dX3_isTooLoud_15 (by decide) ?_
  refine EV_istore dX3_isTooLoud_16 (Nat.le_of_ble_eq_true rfl) (Nat.le_of_ble_eq_true rfl) rfl ?_
  exact lp_loud (k := k + 2) hn (hr.pl loudS_pl) _ _ _ 0 _ rfl (by omega)
def reasonF (σ : qσ) (c r st fc zc : Nat) : Int32 :=
  if bI (towerL σ r (cntF σ r) 0) = 0 then (if bI (zoneL σ r (14 + 4 + c) zc st (cntF σ r) 0) = 0 then (if bI (othersL σ (nI c) r (nI st) fc 0) = 0 then (if bI (itselfL σ (nI c) r (nI st) fc 0) = 0 then
    (if costRF σ r (cntF σ r) ≤ σ (14 + 4 + c) 4 then (if bI (loudB σ (14 + 4 + c) r (nI st) fc) = 0 then 0 else 6) else 5) else 4) else 3) else 2) else 1
def reasonS (σ : qσ) (c r st fc zc : Nat) : qσ :=
  if bI (towerL σ r (cntF σ r) 0) = 0 then (if bI (zoneL σ r (14 + 4 + c) zc st (cntF σ r) 0) = 0 then (if bI (othersL σ (nI c) r (nI st) fc 0) = 0 then (if bI (itselfL σ (nI c) r (nI st) fc 0) = 0 then
    (if costRF σ r (cntF σ r) ≤ σ (14 + 4 + c) 4 then loudS σ (14 + 4 + c) r (nI st) fc else σ) else σ) else σ) else σ) else σ
theorem reasonS_pl {σ : qσ} {c r st fc zc : Nat} : Pl σ (reasonS σ c r st fc zc) := Pl.if (Pl.if (Pl.if (Pl.if (Pl.if loudS_pl Pl.rf) Pl.rf) Pl.rf) Pl.rf) Pl.rf
set_option maxHeartbeats 8000000 in
theorem sp_reason {σ : qσ} {c r st cc fc zc : Nat} (hW : WF σ 14 cc fc zc) (hr : okRt σ r) (hc6 : c < 6) (hst : 0 < st ∧ st < 2 ^ 20) : SP z (k + 4) mX3_reasonAgainst [.ref 108, .int (nI c), .ref r, .int (nI st)] σ (some (.int (reasonF σ c r st fc zc))) (reasonS σ c r st fc zc) := by
  refine SP_of 1 (by decide) (Nat.le_of_ble_eq_true rfl) fun X n hn => ?_
  have hO := o_sky s14
  have hC := o_craft s14 hc6
  have q1 := hr.cnt
  refine EV_aload_n dX3_reasonAgainst_0 rfl ?_
  refine ES_getf dX3_reasonAgainst_1 fkX3_19 hn o_judge rfl ?_
  refine ES_getf dX3_reasonAgainst_4 fkX3_23 hn (by assumption) rfl ?_
  refine EV_iload_n dX3_reasonAgainst_7 rfl ?_
  refine ES_aaldC s14 dX3_reasonAgainst_8 hn hc6 ?_
  refine EV_astore dX3_reasonAgainst_9 (Nat.le_of_ble_eq_true rfl) (Nat.le_of_ble_eq_true rfl) rfl ?_
  refine EV_aload_n dX3_reasonAgainst_11 rfl ?_
  refine EV_aload_n dX3_reasonAgainst_12 rfl ?_
  refine ES_callV dX3_reasonAgainst_13 mkX3_29 mfX3_meetsTower mvX3_meetsTower hn o_judge rfl (sp_meetsTower (k := k + 2) hr) rfl rfl (Nat.le_of_ble_eq_true rfl) ?_
  refine EV_if_eq 21 dX3_reasonAgainst_16 (by decide) (fun c16 => ?_) (fun c16 => ?_)
  · skip
    refine EV_aload_n dX3_reasonAgainst_21 rfl ?_
    refine EV_aload dX3_reasonAgainst_22 rfl ?_
    refine EV_aload_n dX3_reasonAgainst_24 rfl ?_
    refine EV_iload_n dX3_reasonAgainst_25 rfl ?_
    refine ES_callV dX3_reasonAgainst_26 mkX3_33 mfX3_meetsZone mvX3_meetsZone hn o_judge rfl (sp_meetsZone (k := k + 1) hW hr hC hst) rfl rfl (Nat.le_of_ble_eq_true rfl) ?_
    refine EV_if_eq 34 dX3_reasonAgainst_29 (by decide) (fun c29 => ?_) (fun c29 => ?_)
    · skip
      refine EV_aload_n dX3_reasonAgainst_34 rfl ?_
      refine EV_iload_n dX3_reasonAgainst_35 rfl ?_
      refine EV_aload_n dX3_reasonAgainst_36 rfl ?_
      refine EV_iload_n dX3_reasonAgainst_37 rfl ?_
      refine ES_callV dX3_reasonAgainst_38 mkX3_37 mfX3_meetsOthers mvX3_meetsOthers hn o_judge rfl (sp_meetsOthers (k := k + 1) hW hr _ _) rfl rfl (Nat.le_of_ble_eq_true rfl) ?_
      refine EV_if_eq 46 dX3_reasonAgainst_41 (by decide) (fun c41 => ?_) (fun c41 => ?_)
      · skip
        refine EV_aload_n dX3_reasonAgainst_46 rfl ?_
        refine EV_iload_n dX3_reasonAgainst_47 rfl ?_
        refine EV_aload_n dX3_reasonAgainst_48 rfl ?_
        refine EV_iload_n dX3_reasonAgainst_49 rfl ?_
        refine ES_callV dX3_reasonAgainst_50 mkX3_41 mfX3_meetsItself mvX3_meetsItself hn o_judge rfl (sp_meetsItself (k := k + 1) hW hr _ _) rfl rfl (Nat.le_of_ble_eq_true rfl) ?_
        refine EV_if_eq 58 dX3_reasonAgainst_53 (by decide) (fun c53 => ?_) (fun c53 => ?_)
        · skip
          refine EV_aload_n dX3_reasonAgainst_58 rfl ?_
          refine ES_getf dX3_reasonAgainst_59 fkX3_15 hn o_judge rfl ?_
          refine EV_aload_n dX3_reasonAgainst_62 rfl ?_
          refine ES_callV dX3_reasonAgainst_63 mkX3_44 mfX2_costOfRoute mvX2_costOfRoute hn o_ground rfl (sp_costOfRoute z (k + 1) hr.1 q1.1 (by omega)) rfl rfl (Nat.le_of_ble_eq_true rfl) ?_
          refine EV_aload dX3_reasonAgainst_66 rfl ?_
          refine ES_getf dX3_reasonAgainst_68 fkX3_50 hn (by assumption) rfl ?_
          refine EV_icmp_le 76 dX3_reasonAgainst_71 (by decide) (fun c71 => ?_) (fun c71 => ?_)
          · skip
            refine EV_aload_n dX3_reasonAgainst_76 rfl ?_
            refine EV_aload dX3_reasonAgainst_77 rfl ?_
            refine EV_aload_n dX3_reasonAgainst_79 rfl ?_
            refine EV_iload_n dX3_reasonAgainst_80 rfl ?_
            refine ES_callV dX3_reasonAgainst_81 mkX3_56 mfX3_isTooLoud mvX3_isTooLoud hn o_judge rfl (sp_isTooLoud (k := k) hW hr hC _) rfl rfl (Nat.le_of_ble_eq_true rfl) ?_
            refine EV_if_eq 92 dX3_reasonAgainst_84 (by decide) (fun c84 => ?_) (fun c84 => ?_)
            · skip
              refine EV_iconst (v := 0) dX3_reasonAgainst_92 (by decide) ?_
              exact ES_iret dX3_reasonAgainst_93 rfl rfl (by simp only [reasonF, if_pos c16, if_pos c29, if_pos c41, if_pos c53, if_pos c71, if_pos c84]; try rfl) (by simp only [reasonS, if_pos c16, if_pos c29, if_pos c41, if_pos c53, if_pos c71, if_pos c84])
            · skip
              refine EV_bipush (v := 6) dX3_reasonAgainst_87 (by decide) ?_
              refine EV_goto 93 dX3_reasonAgainst_89 (by decide) ?_
              exact ES_iret dX3_reasonAgainst_93 rfl rfl (by simp only [reasonF, if_pos c16, if_pos c29, if_pos c41, if_pos c53, if_pos c71, if_neg c84]; try rfl) (by simp only [reasonS, if_pos c16, if_pos c29, if_pos c41, if_pos c53, if_pos c71, if_neg c84])
          · skip
            refine EV_iconst (v := 5) dX3_reasonAgainst_74 (by decide) ?_
            exact ES_iret dX3_reasonAgainst_75 rfl rfl (by simp only [reasonF, if_pos c16, if_pos c29, if_pos c41, if_pos c53, if_neg c71]; try rfl) (by simp only [reasonS, if_pos c16, if_pos c29, if_pos c41, if_pos c53, if_neg c71])
        · skip
          refine EV_iconst (v := 4) dX3_reasonAgainst_56 (by decide) ?_
          exact ES_iret dX3_reasonAgainst_57 rfl rfl (by simp only [reasonF, if_pos c16, if_pos c29, if_pos c41, if_neg c53]; try rfl) (by simp only [reasonS, if_pos c16, if_pos c29, if_pos c41, if_neg c53])
      · skip
        refine EV_iconst (v := 3) dX3_reasonAgainst_44 (by decide) ?_
        exact ES_iret dX3_reasonAgainst_45 rfl rfl (by simp only [reasonF, if_pos c16, if_pos c29, if_neg c41]; try rfl) (by simp only [reasonS, if_pos c16, if_pos c29, if_neg c41])
    · skip
      refine EV_iconst (v := 2) dX3_reasonAgainst_32 (by decide) ?_
      exact ES_iret dX3_reasonAgainst_33 rfl rfl (by simp only [reasonF, if_pos c16, if_neg c29]; try rfl) (by simp only [reasonS, if_pos c16, if_neg c29])
  · skip
    refine EV_iconst (v := 1) dX3_reasonAgainst_19 (by decide) ?_
    exact ES_iret dX3_reasonAgainst_20 rfl rfl (by simp only [reasonF, if_neg c16]; try rfl) (by simp only [reasonS, if_neg c16])
end Jd
