/-! ===== the law, from its entry ===== -/
section LawAll
variable {z : qZ} {k : Nat} {X : qM} {n bc bs : Nat} {Q : qQ}
set_option maxHeartbeats 16000000 in
theorem lp_pads (hn0 : 113 ≤ n) (hX : PX X) (kk : EV z (k + 8) mL_law 61 [.ref 0, .ref 1, .ref 113, .int (nI 5), .null, .null, .null, .null, .null, .null, .null, .null, .null, .null] [] (mm (pdsF 5) X) n bc bs Q) : ∀ (j i : Nat), i + j = 5 → EV z (k + 8) mL_law 37 [.ref 0, .ref 1, .ref 113, .int (nI i), .null, .null, .null, .null, .null, .null, .null, .null, .null, .null] [] (mm (pdsF i) X) n bc bs Q := by
  have hO := o_air
  have hn : 112 ≤ n := by omega
  obtain ⟨pf, hX1, hX2⟩ := hX
  intro j
  induction j with
  | zero =>
    intro i hi
    obtain rfl : i = 5 := by omega
    refine EV_iload_n dL_law_37 rfl ?_
    refine EV_iconst (v := 5) dL_law_38 (by decide) ?_
    refine EV_icmp_ge 61 dL_law_39 (by decide) (fun c39 => ?_) (fun c39 => ?_)
    · skip
      exact kk
    · skip
      exact absurd (show (5 : Int32) ≤ nI 5 from by decide) c39
  | succ j ih =>
    intro i hi
    have h5 : i < 5 := by omega
    obtain ⟨p1, p2, p3⟩ := pds_ok i h5
    have ep : pf (nI i).toNatClampNeg = nI (pdN i) := by rw [nI_clamp (by omega), hX2 _ h5]
    refine EV_iload_n dL_law_37 rfl ?_
    refine EV_iconst (v := 5) dL_law_38 (by decide) ?_
    refine EV_icmp_ge 61 dL_law_39 (by decide) (fun c39 => ?_) (fun c39 => ?_)
    · skip
      exact absurd c39 (nI_ge (a := i) (b := 5) (by omega) (by omega))
    · skip
      refine EV_aload_n dL_law_42 rfl ?_
      refine EV_aload_n dL_law_43 rfl ?_
      refine EV_iload_n dL_law_44 rfl ?_
      refine EV_iald (f := pf) dL_law_45 (by omega) ((mm_gt (by omega)).trans hX1) (vp_in_nI h5 (by omega)) ?_
      rw [ep]
      refine ES_callV dL_law_46 mkL_12 mfX8_pad mvX8_pad hn o_air rfl (sp_pad (z := z) (k := k + 5) (isPd_lt (isPd_pdN h5)) p1 p2 p3 h5) rfl rfl (Nat.le_of_ble_eq_true rfl) ?_
      refine EV_iload_n dL_law_49 rfl ?_
      refine EV_icmp_eq 55 dL_law_50 (by decide) (fun c50 => ?_) (fun c50 => ?_)
      · skip
        refine EV_iinc dL_law_55 rfl (Nat.le_of_ble_eq_true rfl) rfl ?_
        refine EV_goto 37 dL_law_58 (by decide) ?_
        rw [show nI i + Int32.ofInt 1 = nI (i + 1) from (nI_succ i).symm]
        exact ih (i + 1) (by omega)
      · skip
        exact absurd rfl c50
set_option maxHeartbeats 16000000 in
theorem lp_crafts (hz : z.1 < 2 ^ 31) (hn : 112 ≤ n) (kk : ∀ σ : qσ, SU z 5 σ → EV z (k + 8) mL_law 131 [.ref 0, .ref 1, .ref 113, .int (nI 5), .null, .null, .null, .null, .null, .null, .null, .null, .null, .null] [] (mm σ X) n bc bs Q) : ∀ (j i : Nat) (σ : qσ), i + j = 5 → SU z i σ → EV z (k + 8) mL_law 63 [.ref 0, .ref 1, .ref 113, .int (nI i), .null, .null, .null, .null, .null, .null, .null, .null, .null, .null] [] (mm σ X) n bc bs Q := by
  have hO := o_air
  intro j
  induction j with
  | zero =>
    intro i σ hi hS
    obtain rfl : i = 5 := by omega
    refine EV_iload_n dL_law_63 rfl ?_
    refine EV_iconst (v := 5) dL_law_64 (by decide) ?_
    refine EV_icmp_ge 131 dL_law_65 (by decide) (fun c65 => ?_) (fun c65 => ?_)
    · skip
      exact kk σ hS
    · skip
      exact absurd (show (5 : Int32) ≤ nI 5 from by decide) c65
  | succ j ih =>
    intro i σ hi hS
    have h5 : i < 5 := by omega
    have hp : σ 2 4 = nI 5 := by rw [hS.1 2 4 (by omega) (by omega)]; exact pds_5.2.2.1
    have hb := blw_lt (cl z (i + 1)) (N := 100) (by omega)
    have e1 : nI i + 1 = nI (i + 1) := nI_1 i
    have e2 : nI i + 2 = nI (i + 2) := nI_add i 2
    have e3 : (20 : Int32) + nI (blw (cl z (i + 1)) 100) = nI (btZ z i) := nI_add 20 _
    refine EV_iload_n dL_law_63 rfl ?_
    refine EV_iconst (v := 5) dL_law_64 (by decide) ?_
    refine EV_icmp_ge 131 dL_law_65 (by decide) (fun c65 => ?_) (fun c65 => ?_)
    · skip
      exact absurd c65 (nI_ge (a := i) (b := 5) (by omega) (by omega))
    · skip
      refine EV_aload_n dL_law_68 rfl ?_
      refine EV_aload_n dL_law_69 rfl ?_
      refine EV_iload_n dL_law_70 rfl ?_
      refine ES_callS dL_law_71 mkL_16 mfL_cell msL_cell hn (sp_cell z (k + 7) hz (by omega)) rfl rfl (Nat.le_of_ble_eq_true rfl) ?_
      refine EV_iconst (v := 5) dL_law_74 (by decide) ?_
      refine ES_callS dL_law_75 mkL_22 mfL_below msL_below hn (sp_below' z (k + 7) _ 5 5 rfl (by omega) (by omega)) rfl rfl (Nat.le_of_ble_eq_true rfl) ?_
      refine EV_aload_n dL_law_78 rfl ?_
      refine EV_iload_n dL_law_79 rfl ?_
      refine ES_callS dL_law_80 mkL_16 mfL_cell msL_cell hn (sp_cell z (k + 7) hz (by omega)) rfl rfl (Nat.le_of_ble_eq_true rfl) ?_
      refine EV_iconst (v := 3) dL_law_83 (by decide) ?_
      refine EV_ishr dL_law_84 ?_
      refine EV_iconst (v := 4) dL_law_85 (by decide) ?_
      refine ES_callS dL_law_86 mkL_22 mfL_below msL_below hn (sp_below' z (k + 7) _ 4 4 rfl (by omega) (by omega)) rfl rfl (Nat.le_of_ble_eq_true rfl) ?_
      refine EV_bipush (v := 20) dL_law_89 (by decide) ?_
      refine EV_aload_n dL_law_91 rfl ?_
      refine EV_iload_n dL_law_92 rfl ?_
      refine EV_iconst (v := 1) dL_law_93 (by decide) ?_
      refine EV_iadd dL_law_94 ?_
      rw [e1]
      refine ES_callS dL_law_95 mkL_16 mfL_cell msL_cell hn (sp_cell z (k + 7) hz (by omega)) rfl rfl (Nat.le_of_ble_eq_true rfl) ?_
      refine EV_bipush (v := 100) dL_law_98 (by decide) ?_
      refine ES_callS dL_law_100 mkL_22 mfL_below msL_below hn (sp_below' z (k + 7) _ 100 100 rfl (by omega) (by omega)) rfl rfl (Nat.le_of_ble_eq_true rfl) ?_
      refine EV_iadd dL_law_103 ?_
      rw [e3]
      refine EV_aload_n dL_law_104 rfl ?_
      refine EV_iload_n dL_law_105 rfl ?_
      refine EV_iconst (v := 2) dL_law_106 (by decide) ?_
      refine EV_iadd dL_law_107 ?_
      rw [e2]
      refine ES_callS dL_law_108 mkL_16 mfL_cell msL_cell hn (sp_cell z (k + 7) hz (by omega)) rfl rfl (Nat.le_of_ble_eq_true rfl) ?_
      refine EV_bipush (v := 10) dL_law_111 (by decide) ?_
      refine ES_callS dL_law_113 mkL_22 mfL_below msL_below hn (sp_below' z (k + 7) _ 10 10 rfl (by omega) (by omega)) rfl rfl (Nat.le_of_ble_eq_true rfl) ?_
      refine ES_callV dL_law_116 mkL_26 mfX8_craft mvX8_craft hn o_air rfl (sp_craft (z := z) (k := k + 6) (pc := 5) hS.2.1 (by omega) hp (by omega) (blw_lt _ (by omega)) (Nat.le_of_lt_succ (blw_lt _ (by omega))) (show 10 ≤ btZ z i ∧ btZ z i ≤ 200 by unfold btZ; omega) (Nat.le_of_lt_succ (blw_lt _ (by omega)))) rfl rfl (Nat.le_of_ble_eq_true rfl) ?_
      refine EV_iload_n dL_law_119 rfl ?_
      refine EV_icmp_eq 125 dL_law_120 (by decide) (fun c120 => ?_) (fun c120 => ?_)
      · skip
        refine EV_iinc dL_law_125 rfl (Nat.le_of_ble_eq_true rfl) rfl ?_
        refine EV_goto 63 dL_law_128 (by decide) ?_
        rw [show nI i + Int32.ofInt 1 = nI (i + 1) from (nI_succ i).symm]
        exact ih (i + 1) _ (by omega) (hS.next h5 _ _)
      · skip
        exact absurd rfl c120
set_option maxHeartbeats 16000000 in
theorem lp_houses (hz : z.1 < 2 ^ 31) (hn : 112 ≤ n) {A : aS} (kk : ∀ σ : qσ, LW σ 0 0 0 0 A true → EV z (k + 8) mL_law 171 [.ref 0, .ref 1, .ref 113, .int (nI 25), .null, .null, .null, .null, .null, .null, .null, .null, .null, .null] [] (mm σ X) n bc bs Q) : ∀ (j i : Nat) (σ : qσ), i + j = 25 → LW σ 0 0 0 0 A true → (∀ c, i ≤ c → c < 25 → σ 3 c = 0) → EV z (k + 8) mL_law 133 [.ref 0, .ref 1, .ref 113, .int (nI i), .null, .null, .null, .null, .null, .null, .null, .null, .null, .null] [] (mm σ X) n bc bs Q := by
  have hO := o_air
  intro j
  induction j with
  | zero =>
    intro i σ hi hL h0
    obtain rfl : i = 25 := by omega
    refine EV_iload_n dL_law_133 rfl ?_
    refine EV_bipush (v := 25) dL_law_134 (by decide) ?_
    refine EV_icmp_ge 171 dL_law_136 (by decide) (fun c136 => ?_) (fun c136 => ?_)
    · skip
      exact kk σ hL
    · skip
      exact absurd (show (25 : Int32) ≤ nI 25 from by decide) c136
  | succ j ih =>
    intro i σ hi hL h0
    have hr1 : nI i - nI i / 16 * 16 = nI (i % 16) := nI_rem (N := 16) (by omega) (by omega)
    have e0 : σ 3 (nI i).toNatClampNeg = 0 := by rw [nI_clamp (by omega)]; exact h0 i (Nat.le_refl i) (by omega)
    refine EV_iload_n dL_law_133 rfl ?_
    refine EV_bipush (v := 25) dL_law_134 (by decide) ?_
    refine EV_icmp_ge 171 dL_law_136 (by decide) (fun c136 => ?_) (fun c136 => ?_)
    · skip
      exact absurd c136 (nI_ge (a := i) (b := 25) (by omega) (by omega))
    · skip
      refine EV_aload_n dL_law_139 rfl ?_
      refine EV_iload_n dL_law_140 rfl ?_
      refine EV_aload_n dL_law_141 rfl ?_
      refine EV_iload_n dL_law_142 rfl ?_
      refine EV_bipush (v := 16) dL_law_143 (by decide) ?_
      refine EV_irem dL_law_145 (by decide) ?_
      rw [hr1]
      refine ES_callS dL_law_146 mkL_16 mfL_cell msL_cell hn (sp_cell z (k + 7) hz (by omega)) rfl rfl (Nat.le_of_ble_eq_true rfl) ?_
      refine EV_iload_n dL_law_149 rfl ?_
      refine EV_iconst (v := 5) dL_law_150 (by decide) ?_
      refine EV_irem dL_law_151 (by decide) ?_
      refine EV_ishr dL_law_152 ?_
      refine EV_iconst (v := 4) dL_law_153 (by decide) ?_
      refine ES_callS dL_law_154 mkL_22 mfL_below msL_below hn (sp_below' z (k + 7) _ 4 4 rfl (by omega) (by omega)) rfl rfl (Nat.le_of_ble_eq_true rfl) ?_
      refine ES_callV dL_law_157 mkL_30 mfX8_houses mvX8_houses hn o_air rfl ((sp_houses (z := z) (k := k + 5) (show i < 25 by omega) (Nat.le_of_lt_succ (Nat.lt_of_lt_of_le (blw_lt _ (N := 4) (by omega)) (by omega)))).to (congrArg (fun x => some (Value.int x)) e0) rfl) rfl rfl (Nat.le_of_ble_eq_true rfl) ?_
      refine EV_if_eq 165 dL_law_160 (by decide) (fun c160 => ?_) (fun c160 => ?_)
      · skip
        refine EV_iinc dL_law_165 rfl (Nat.le_of_ble_eq_true rfl) rfl ?_
        refine EV_goto 133 dL_law_168 (by decide) ?_
        rw [show nI i + Int32.ofInt 1 = nI (i + 1) from (nI_succ i).symm]
        refine ih (i + 1) _ (by omega) (hL.house _ _) (fun c h1 h2 => ?_)
        rw [nI_clamp (by omega), sset_at, if_neg (by omega)]
        exact h0 c (by omega) h2
      · skip
        exact absurd rfl c160
theorem SU.h0 {σ : qσ} (h : SU z 5 σ) (c : Nat) : σ 3 c = 0 := by
  rw [h.1 3 c (by omega) (by omega), pds_far (by omega) (by omega) (by omega)]
  rfl
set_option maxHeartbeats 16000000 in
theorem ev_law (hz : z.1 < 2 ^ 31) (M : qM) : EV z (k + 8) mL_law 0 [.ref 0, .null, .null, .null, .null, .null, .null, .null, .null, .null, .null, .null, .null, .null] [] M 0 (48 * 44 + 1 + 111 + 1) (252 * 44 + 5 + 844 + 6) qT1 := by
  have hO := o_air
  have hn : 112 ≤ 113 := by omega
  have k35 : ∀ (σ : qσ) (X : qM), σ = pdsF 0 → PX X → EV z (k + 8) mL_law 35 [.ref 0, .ref 1, .ref 113, .null, .null, .null, .null, .null, .null, .null, .null, .null, .null, .null] [] (mm σ X) 113 (48 * 44) (252 * 44) qT1 := by
    intro σ X hσ hX
    subst hσ
    have k171 : ∀ σ : qσ, LW σ 0 0 0 0 (A00 z) true → EV z (k + 8) mL_law 171 [.ref 0, .ref 1, .ref 113, .int (nI 25), .null, .null, .null, .null, .null, .null, .null, .null, .null, .null] [] (mm σ X) 113 (48 * 44) (252 * 44) qT1 := by
      intro σ hL
      refine EV_iconst (v := 1) dL_law_171 (by decide) ?_
      refine EV_istore_n dL_law_172 (Nat.le_of_ble_eq_true rfl) (Nat.le_of_ble_eq_true rfl) rfl ?_
      refine EV_iconst (v := 0) dL_law_173 (by decide) ?_
      refine EV_istore dL_law_174 (Nat.le_of_ble_eq_true rfl) (Nat.le_of_ble_eq_true rfl) rfl ?_
      exact lp_turns hz 44 0 0 0 0 0 _ true σ X 113 (by omega) (by omega) hL hX (by omega)
    have k131 : ∀ σ : qσ, SU z 5 σ → EV z (k + 8) mL_law 131 [.ref 0, .ref 1, .ref 113, .int (nI 5), .null, .null, .null, .null, .null, .null, .null, .null, .null, .null] [] (mm σ X) 113 (48 * 44) (252 * 44) qT1 := by
      intro σ hS
      refine EV_iconst (v := 0) dL_law_131 (by decide) ?_
      refine EV_istore_n dL_law_132 (Nat.le_of_ble_eq_true rfl) (Nat.le_of_ble_eq_true rfl) rfl ?_
      exact lp_houses hz hn k171 25 0 σ (by omega) hS.lw (fun c _ _ => hS.h0 c)
    have k61 : EV z (k + 8) mL_law 61 [.ref 0, .ref 1, .ref 113, .int (nI 5), .null, .null, .null, .null, .null, .null, .null, .null, .null, .null] [] (mm (pdsF 5) X) 113 (48 * 44) (252 * 44) qT1 := by
      refine EV_iconst (v := 0) dL_law_61 (by decide) ?_
      refine EV_istore_n dL_law_62 (Nat.le_of_ble_eq_true rfl) (Nat.le_of_ble_eq_true rfl) rfl ?_
      exact lp_crafts hz hn k131 5 0 _ (by omega) (SU.zero z)
    refine EV_iconst (v := 0) dL_law_35 (by decide) ?_
    refine EV_istore_n dL_law_36 (Nat.le_of_ble_eq_true rfl) (Nat.le_of_ble_eq_true rfl) rfl ?_
    exact lp_pads (by omega) hX k61 5 0 (by omega)
  have r0 : 0 < 113 ∧ 113 ≤ 112 + 1 := by omega
  refine EV_new (ci := 8) (fs := bl8) (bc := 48 * 44 + 1 + 111) (bs := 252 * 44 + 5 + 844) dL_law_0 rfl qcok8 ckL_9 ciX8 cnX8 nf8 ?_
  refine EV_dup dL_law_3 rfl ?_
  refine EV_callI (mc := 111) (ms := 844) (bc := 48 * 44 + 1) (bs := 252 * 44 + 5) dL_law_4 mkL_11 mfX8_init miX8_init (ct_airI (k := k + 3) (qset_at _ _ _)) rfl rfl (Nat.le_of_ble_eq_true rfl) (fun v M' n' h => ?_)
  obtain ⟨rfl, rfl, hM⟩ := h
  refine EV_mem (M' := mm s0 (fun _ => .inr (0, []))) (fun k h1 h2 => (hM k h1 h2).trans (mm_at h2).symm) ?_
  refine EV_astore_n dL_law_7 (Nat.le_of_ble_eq_true rfl) (Nat.le_of_ble_eq_true rfl) rfl ?_
  refine EV_iconst (v := 5) dL_law_8 (by decide) ?_
  refine EV_newI (bc := 48 * 44) (bs := 252 * 44) dL_law_9 (by decide) (show (5 : Int32).toNatClampNeg = 5 by decide) (by decide) ?_
  rw [mm_set (by omega)]
  refine EV_dup dL_law_11 rfl ?_
  refine EV_iconst (v := 0) dL_law_12 (by decide) ?_
  refine EV_iconst (v := 0) dL_law_13 (by decide) ?_
  refine EV_iast dL_law_14 r0 ((mm_gt (by omega)).trans (qset_at _ _ _)) (vp_in_nI (n := 0) (by omega) (by omega)) ?_
  rw [mm_set (by omega), qset_qset]
  refine EV_dup dL_law_15 rfl ?_
  refine EV_iconst (v := 1) dL_law_16 (by decide) ?_
  refine EV_iconst (v := 2) dL_law_17 (by decide) ?_
  refine EV_iast dL_law_18 r0 ((mm_gt (by omega)).trans (qset_at _ _ _)) (vp_in_nI (n := 1) (by omega) (by omega)) ?_
  rw [mm_set (by omega), qset_qset]
  refine EV_dup dL_law_19 rfl ?_
  refine EV_iconst (v := 2) dL_law_20 (by decide) ?_
  refine EV_bipush (v := 12) dL_law_21 (by decide) ?_
  refine EV_iast dL_law_23 r0 ((mm_gt (by omega)).trans (qset_at _ _ _)) (vp_in_nI (n := 2) (by omega) (by omega)) ?_
  rw [mm_set (by omega), qset_qset]
  refine EV_dup dL_law_24 rfl ?_
  refine EV_iconst (v := 3) dL_law_25 (by decide) ?_
  refine EV_bipush (v := 20) dL_law_26 (by decide) ?_
  refine EV_iast dL_law_28 r0 ((mm_gt (by omega)).trans (qset_at _ _ _)) (vp_in_nI (n := 3) (by omega) (by omega)) ?_
  rw [mm_set (by omega), qset_qset]
  refine EV_dup dL_law_29 rfl ?_
  refine EV_iconst (v := 4) dL_law_30 (by decide) ?_
  refine EV_bipush (v := 24) dL_law_31 (by decide) ?_
  refine EV_iast dL_law_33 r0 ((mm_gt (by omega)).trans (qset_at _ _ _)) (vp_in_nI (n := 4) (by omega) (by omega)) ?_
  rw [mm_set (by omega), qset_qset]
  refine EV_astore_n dL_law_34 (Nat.le_of_ble_eq_true rfl) (Nat.le_of_ble_eq_true rfl) rfl ?_
  refine k35 _ _ rfl ⟨_, qset_at _ _ _, fun p hp => ?_⟩
  rcases (show p = 0 ∨ p = 1 ∨ p = 2 ∨ p = 3 ∨ p = 4 by omega) with rfl | rfl | rfl | rfl | rfl <;> rfl
end LawAll
