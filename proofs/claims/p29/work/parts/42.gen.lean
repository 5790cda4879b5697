/-! ===== the ground, the judge, the search, the air at first ===== -/
def GrA (M0 : qM) (i : Nat) (M : qM) : Prop := M 2 = .inr (2, oF 2 2 (fun _ => 0)) ∧ M 3 = .inl (0, 25, .inl (fun _ => 0)) ∧ M 4 = .inl (1, 25, .inl (fun _ => 0)) ∧ M 5 = .inl (0, 25, .inl (fillF 25 (-1) (fun _ => 0))) ∧ M 6 = .inl (0, 5, .inl (fun _ => 0)) ∧ M 7 = .inl (2, 6, .inr (.inr (.inr (.inr (rwZ i))))) ∧ (∀ j, j < i → M (8 + j) = .inr (7, oF 7 (8 + j) (fun _ => 0))) ∧ M 1 = M0 1
def s0 (k : Nat) : Nat → Int32 := if k = 5 then fillF 25 (-1) (fun _ => 0) else if 14 ≤ k ∧ k < 60 then sk0 (k - 14) else if 60 ≤ k ∧ k < 106 then sk0 (k - 60) else fun _ => 0
def grPost (M0 : qM) : qQ := fun v M' n' => v = none ∧ n' = 13 ∧ M' 1 = M0 1 ∧ ∀ d, 2 ≤ d → d < 14 → M' d = eN d (s0 d)
section Ctor3
variable {z : qZ} {k : Nat}
set_option maxHeartbeats 8000000 in
theorem lp_gr {M0 : qM} : ∀ (j i : Nat) (M : qM), i + j = 6 → GrA M0 i M → EV z (k + 2) mX2_init 54 [.ref 2, .int (nI i)] [] M (7 + i) j (4 * j) (grPost M0) := by
  intro j
  induction j with
  | zero =>
    intro i M hi hA
    obtain rfl : i = 6 := by omega
    obtain ⟨h2, h3, h4, h5, h6, h7, h8, h1⟩ := hA
    refine EV_iload_n dX2_init_54 rfl ?_
    refine EV_bipush (v := 6) dX2_init_55 (by decide) ?_
    refine EV_icmp_ge 79 dX2_init_57 (by decide) (fun c57 => ?_) (fun c57 => ?_)
    · skip
      refine EV_vret dX2_init_79 rfl ⟨rfl, rfl, h1, fun d hd1 hd2 => ?_⟩
      rcases (show d = 2 ∨ d = 3 ∨ d = 4 ∨ d = 5 ∨ d = 6 ∨ d = 7 ∨ 8 ≤ d by omega) with rfl | rfl | rfl | rfl | rfl | rfl | h
      · exact h2
      · exact h3
      · exact h4
      · exact h5
      · exact h6
      · exact h7
      · have e := h8 (d - 8) (by omega)
        rw [show 8 + (d - 8) = d by omega] at e
        rw [e]
        rcases (show d = 8 ∨ d = 9 ∨ d = 10 ∨ d = 11 ∨ d = 12 ∨ d = 13 by omega) with rfl | rfl | rfl | rfl | rfl | rfl <;> rfl
    · skip
      exact absurd (nI_le (a := 6) (b := 6) (by omega) (by omega)) c57
  | succ j ih =>
    intro i M hi hA
    obtain ⟨h2, h3, h4, h5, h6, h7, h8, h1⟩ := hA
    refine EV_iload_n dX2_init_54 rfl ?_
    refine EV_bipush (v := 6) dX2_init_55 (by decide) ?_
    refine EV_icmp_ge 79 dX2_init_57 (by decide) (fun c57 => ?_) (fun c57 => ?_)
    · skip
      exact absurd c57 (nI_ge (a := i) (b := 6) (by omega) (by omega))
    · skip
      refine EV_aload_n dX2_init_60 rfl ?_
      refine EV_getf dX2_init_61 fkX2_27 ⟨by omega, by omega⟩ h2 rfl ?_
      refine EV_iload_n dX2_init_64 rfl ?_
      refine EV_new (ci := 7) (fs := bl7) (bc := j) (bs := 4 * j) dX2_init_65 rfl qcok7 ckX2_25 ciX7 cnX7 nf7 ?_
      refine EV_dup dX2_init_68 rfl ?_
      refine EV_callI (mc := 0) (ms := 0) (bc := j) (bs := 4 * j) dX2_init_69 mkX2_37 mfX7_init miX7_init (ct_znI (k := k)) rfl rfl (Nat.le_of_ble_eq_true rfl) (fun v M' n' h => ?_)
      obtain ⟨rfl, rfl, rfl⟩ := h
      refine EV_aast dX2_init_72 ⟨by omega, by omega⟩ ⟨by omega, by omega⟩ ((qset_ne _ _ (by omega)).trans h7) (qset_at _ _ _) (show vwCl[7]? = some (RX7, TX7, 4) from rfl) (fun _ => rfl) (vp_in_nI (by omega) (by omega)) ?_
      rw [nI_clamp (by omega)]
      refine EV_iinc dX2_init_73 rfl (Nat.le_of_ble_eq_true rfl) rfl ?_
      refine EV_goto 54 dX2_init_76 (by decide) ?_
      rw [show nI i + Int32.ofInt 1 = nI (i + 1) from (nI_succ i).symm]
      refine ih (i + 1) _ (by omega) ⟨?_, ?_, ?_, ?_, ?_, ?_, fun t ht => ?_, ?_⟩
      · rw [qset_ne _ _ (by omega), qset_ne _ _ (by omega)]; exact h2
      · rw [qset_ne _ _ (by omega), qset_ne _ _ (by omega)]; exact h3
      · rw [qset_ne _ _ (by omega), qset_ne _ _ (by omega)]; exact h4
      · rw [qset_ne _ _ (by omega), qset_ne _ _ (by omega)]; exact h5
      · rw [qset_ne _ _ (by omega), qset_ne _ _ (by omega)]; exact h6
      · rw [qset_at]
        have e := rw_up (g := fun j => 8 + j) (i := i) (v := 7 + i + 1) (by omega)
        unfold rwZ at e ⊢
        rw [e]
      · by_cases hti : t = i
        · subst hti
          rw [qset_ne _ _ (by omega), show 8 + t = 7 + t + 1 by omega, qset_at]
          rfl
        · rw [qset_ne _ _ (by omega), qset_ne _ _ (by omega)]; exact h8 t (by omega)
      · rw [qset_ne _ _ (by omega), qset_ne _ _ (by omega)]; exact h1
set_option maxHeartbeats 8000000 in
theorem ct_grI {M : qM} (hM : M 2 = .inr (2, bl2)) : CT z (k + 2) mX2_init [.ref 2] M 2 11 110 (grPost M) := by
  refine CT_of 1 (by decide) (Nat.le_of_ble_eq_true rfl) ?_
  refine EV_aload_n dX2_init_0 rfl ?_
  refine EV_objInit dX2_init_1 lkX2_3 li_obj lc_obj (Nat.le_of_ble_eq_true rfl) ?_
  refine EV_aload_n dX2_init_4 rfl ?_
  refine EV_bipush (v := 25) dX2_init_5 (by decide) ?_
  refine EV_newI (bc := 10) (bs := 85) dX2_init_7 (by decide) (show (25 : Int32).toNatClampNeg = 25 by decide) (by decide) ?_
  refine EV_putfin dX2_init_9 fkX2_9 rfl fkdX2_9 ⟨by omega, by omega⟩ ((qset_ne _ _ (by omega)).trans hM) (Nat.le_of_ble_eq_true rfl) (fun _ => rfl) (fun _ => rfl) ?_
  refine EV_aload_n dX2_init_12 rfl ?_
  refine EV_bipush (v := 25) dX2_init_13 (by decide) ?_
  refine EV_newZ (bc := 9) (bs := 60) dX2_init_15 (by decide) (show (25 : Int32).toNatClampNeg = 25 by decide) (by decide) ?_
  refine EV_putfin dX2_init_17 fkX2_15 rfl fkdX2_15 ⟨by omega, by omega⟩ ((qset_ne _ _ (by omega)).trans (qset_at _ _ _)) (Nat.le_of_ble_eq_true rfl) (fun _ => rfl) (fun _ => rfl) ?_
  refine EV_aload_n dX2_init_20 rfl ?_
  refine EV_bipush (v := 25) dX2_init_21 (by decide) ?_
  refine EV_newI (bc := 8) (bs := 35) dX2_init_23 (by decide) (show (25 : Int32).toNatClampNeg = 25 by decide) (by decide) ?_
  refine EV_putfin dX2_init_25 fkX2_19 rfl fkdX2_19 ⟨by omega, by omega⟩ ((qset_ne _ _ (by omega)).trans (qset_at _ _ _)) (Nat.le_of_ble_eq_true rfl) (fun _ => rfl) (fun _ => rfl) ?_
  refine EV_aload_n dX2_init_28 rfl ?_
  refine EV_iconst (v := 5) dX2_init_29 (by decide) ?_
  refine EV_newI (bc := 7) (bs := 30) dX2_init_30 (by decide) (show (5 : Int32).toNatClampNeg = 5 by decide) (by decide) ?_
  refine EV_putfin dX2_init_32 fkX2_22 rfl fkdX2_22 ⟨by omega, by omega⟩ ((qset_ne _ _ (by omega)).trans (qset_at _ _ _)) (Nat.le_of_ble_eq_true rfl) (fun _ => rfl) (fun _ => rfl) ?_
  refine EV_aload_n dX2_init_35 rfl ?_
  refine EV_bipush (v := 6) dX2_init_36 (by decide) ?_
  refine EV_anew (t := 2) (len := 6) (bc := 6) (bs := 24) dX2_init_38 ckX2_25 (qAOv _ aoZ) (fun _ => rfl) (by decide) (by decide) (by decide) ?_
  refine EV_putfin dX2_init_41 fkX2_27 rfl fkdX2_27 ⟨by omega, by omega⟩ ((qset_ne _ _ (by omega)).trans (qset_at _ _ _)) (Nat.le_of_ble_eq_true rfl) (fun _ => rfl) (fun _ => rfl) ?_
  refine EV_aload_n dX2_init_44 rfl ?_
  refine EV_getf dX2_init_45 fkX2_19 ⟨by omega, by omega⟩ (qset_at _ _ _) rfl ?_
  refine EV_iconst (v := (-1)) dX2_init_48 (by decide) ?_
  refine EV_callS (mc := 0) (ms := 0) (bc := 6) (bs := 24) dX2_init_49 mkX2_31 mfJ7_fill msJ7_fill (ct_fill z (k + 1) (a := 5) (len := 25) (f := fun _ => 0) (-1) ⟨by omega, by omega⟩ (by rw [qset_ne _ _ (by omega), qset_ne _ _ (by omega), qset_ne _ _ (by omega), qset_ne _ _ (by omega), qset_ne _ _ (by omega), qset_at]) (by omega)) rfl rfl (Nat.le_of_ble_eq_true rfl) (fun v M' n' h => ?_)
  obtain ⟨rfl, rfl, rfl⟩ := h
  refine EV_iconst (v := 0) dX2_init_52 (by decide) ?_
  refine EV_istore_n dX2_init_53 (Nat.le_of_ble_eq_true rfl) (Nat.le_of_ble_eq_true rfl) rfl ?_
  refine lp_gr 6 0 _ (by omega) ⟨?_, ?_, ?_, ?_, ?_, ?_, fun t ht => absurd ht (by omega), ?_⟩
  · rw [qset_ne _ _ (by omega), qset_at]; rfl
  · simp [qset]
  · simp [qset]
  · rw [qset_at]
  · simp [qset]
  · rw [qset_ne _ _ (by omega), qset_ne _ _ (by omega), qset_at]; unfold rwZ; simp
  · simp [qset]
theorem ct_jdI {M : qM} (hM : M 108 = .inr (3, bl3)) : CT z (k + 1) mX3_init [.ref 108, .ref 2, .ref 14] M 108 1 25 (fun v M' n' => v = none ∧ n' = 109 ∧ M' 108 = .inr (3, oF 3 108 (fun _ => 0)) ∧ M' 109 = .inl (0, 25, .inl (fun _ => 0)) ∧ ∀ k, k < 108 → M' k = M k) := by
  refine CT_of 0 (by decide) (Nat.le_of_ble_eq_true rfl) ?_
  refine EV_aload_n dX3_init_0 rfl ?_
  refine EV_objInit dX3_init_1 lkX3_3 li_obj lc_obj (Nat.le_of_ble_eq_true rfl) ?_
  refine EV_aload_n dX3_init_4 rfl ?_
  refine EV_bipush (v := 25) dX3_init_5 (by decide) ?_
  refine EV_newI (bc := 0) (bs := 0) dX3_init_7 (by decide) (show (25 : Int32).toNatClampNeg = 25 by decide) (by decide) ?_
  refine EV_putfin dX3_init_9 fkX3_9 rfl fkdX3_9 ⟨by omega, by omega⟩ ((qset_ne _ _ (by omega)).trans hM) (Nat.le_of_ble_eq_true rfl) (fun _ => rfl) (fun _ => rfl) ?_
  refine EV_aload_n dX3_init_12 rfl ?_
  refine EV_aload_n dX3_init_13 rfl ?_
  refine EV_putfin dX3_init_14 fkX3_15 rfl fkdX3_15 ⟨by omega, by omega⟩ (qset_at _ _ _) (Nat.le_of_ble_eq_true rfl) (fun _ => rfl) (fun _ => rfl) ?_
  refine EV_aload_n dX3_init_17 rfl ?_
  refine EV_aload_n dX3_init_18 rfl ?_
  refine EV_putfin dX3_init_19 fkX3_19 rfl fkdX3_19 ⟨by omega, by omega⟩ (qset_at _ _ _) (Nat.le_of_ble_eq_true rfl) (fun _ => rfl) (fun _ => rfl) ?_
  refine EV_vret dX3_init_22 rfl ⟨rfl, rfl, ?_, ?_, fun k hk => ?_⟩
  · rw [qset_at]; rfl
  · simp [qset]
  · rw [qset_ne _ _ (by omega), qset_ne _ _ (by omega), qset_ne _ _ (by omega), qset_ne _ _ (by omega)]
theorem ct_srI {M : qM} (hM : M 110 = .inr (5, bl3)) : CT z (k + 1) mX5_init [.ref 110, .ref 2] M 110 2 50 (fun v M' n' => v = none ∧ n' = 112 ∧ M' 110 = .inr (5, oF 5 110 (fun _ => 0)) ∧ M' 111 = .inl (1, 25, .inl (fun _ => 0)) ∧ M' 112 = .inl (0, 25, .inl (fun _ => 0)) ∧ ∀ k, k < 110 → M' k = M k) := by
  refine CT_of 0 (by decide) (Nat.le_of_ble_eq_true rfl) ?_
  refine EV_aload_n dX5_init_0 rfl ?_
  refine EV_objInit dX5_init_1 lkX5_3 li_obj lc_obj (Nat.le_of_ble_eq_true rfl) ?_
  refine EV_aload_n dX5_init_4 rfl ?_
  refine EV_bipush (v := 25) dX5_init_5 (by decide) ?_
  refine EV_newZ (bc := 1) (bs := 25) dX5_init_7 (by decide) (show (25 : Int32).toNatClampNeg = 25 by decide) (by decide) ?_
  refine EV_putfin dX5_init_9 fkX5_9 rfl fkdX5_9 ⟨by omega, by omega⟩ ((qset_ne _ _ (by omega)).trans hM) (Nat.le_of_ble_eq_true rfl) (fun _ => rfl) (fun _ => rfl) ?_
  refine EV_aload_n dX5_init_12 rfl ?_
  refine EV_bipush (v := 25) dX5_init_13 (by decide) ?_
  refine EV_newI (bc := 0) (bs := 0) dX5_init_15 (by decide) (show (25 : Int32).toNatClampNeg = 25 by decide) (by decide) ?_
  refine EV_putfin dX5_init_17 fkX5_15 rfl fkdX5_15 ⟨by omega, by omega⟩ ((qset_ne _ _ (by omega)).trans (qset_at _ _ _)) (Nat.le_of_ble_eq_true rfl) (fun _ => rfl) (fun _ => rfl) ?_
  refine EV_aload_n dX5_init_20 rfl ?_
  refine EV_aload_n dX5_init_21 rfl ?_
  refine EV_putfin dX5_init_22 fkX5_19 rfl fkdX5_19 ⟨by omega, by omega⟩ (qset_at _ _ _) (Nat.le_of_ble_eq_true rfl) (fun _ => rfl) (fun _ => rfl) ?_
  refine EV_vret dX5_init_25 rfl ⟨rfl, rfl, ?_, ?_, ?_, fun k hk => ?_⟩
  · rw [qset_at]; rfl
  · simp [qset]
  · simp [qset]
  · rw [qset_ne _ _ (by omega), qset_ne _ _ (by omega), qset_ne _ _ (by omega), qset_ne _ _ (by omega), qset_ne _ _ (by omega)]
def airPost : qQ := fun v M' n' => v = none ∧ n' = 112 ∧ ∀ k, 0 < k → k ≤ 112 → M' k = eN k (s0 k)
theorem s0_g {d : Nat} (h1 : 5 < d) (h2 : d < 14) : s0 d = fun _ => 0 := by
  unfold s0
  rw [if_neg (by omega), if_neg (by omega), if_neg (by omega)]
theorem s0_s {s d : Nat} (h : isSky s) (hd : d < 46) : eN (s + d) (s0 (s + d)) = eSky s d (sk0 d) := by
  rw [e_sky h hd]
  congr 1
  unfold s0
  rcases h with rfl | rfl
  · rw [if_neg (by omega), if_pos (by omega), Nat.add_sub_cancel_left]
  · rw [if_neg (by omega), if_neg (by omega), if_pos (by omega), Nat.add_sub_cancel_left]
set_option maxHeartbeats 16000000 in
theorem ct_airI {M : qM} (hM : M 1 = .inr (8, bl8)) : CT z (k + 4) mX8_init [.ref 1] M 1 111 844 airPost := by
  refine CT_of 0 (by decide) (Nat.le_of_ble_eq_true rfl) ?_
  refine EV_aload_n dX8_init_0 rfl ?_
  refine EV_objInit dX8_init_1 lkX8_1 li_obj lc_obj (Nat.le_of_ble_eq_true rfl) ?_
  refine EV_aload_n dX8_init_4 rfl ?_
  refine EV_new (ci := 2) (fs := bl2) (bc := 110) (bs := 835) dX8_init_5 rfl qcok2 ckX8_7 ciX2 cnX2 nf2 ?_
  refine EV_dup dX8_init_8 rfl ?_
  refine EV_callI (mc := 11) (ms := 110) (bc := 99) (bs := 725) dX8_init_9 mkX8_9 mfX2_init miX2_init (ct_grI (k := k + 1) (qset_at _ _ _)) rfl rfl (Nat.le_of_ble_eq_true rfl) (fun v M1 n1 h => ?_)
  obtain ⟨rfl, rfl, a1, a2⟩ := h
  have b1 : M1 1 = .inr (8, bl8) := a1.trans ((qset_ne _ _ (by omega)).trans hM)
  refine EV_putfin dX8_init_12 fkX8_10 rfl fkdX8_10 ⟨by omega, by omega⟩ b1 (Nat.le_of_ble_eq_true rfl) (fun _ => rfl) (fun _ => rfl) ?_
  refine EV_aload_n dX8_init_15 rfl ?_
  refine EV_new (ci := 6) (fs := bl6) (bc := 98) (bs := 716) dX8_init_16 rfl qcok6 ckX8_16 ciX6 cnX6 nf6 ?_
  refine EV_dup dX8_init_19 rfl ?_
  refine EV_aload_n dX8_init_20 rfl ?_
  refine EV_getf dX8_init_21 fkX8_10 ⟨by omega, by omega⟩ ((qset_ne _ _ (by omega)).trans (qset_at _ _ _)) rfl ?_
  refine EV_callI (mc := 45) (ms := 307) (bc := 53) (bs := 409) dX8_init_24 mkX8_18 mfX6_init miX6_init (ct_skI (k := k) (s := 14) (by omega) (qset_at _ _ _)) rfl rfl (Nat.le_of_ble_eq_true rfl) (fun v M2 n2 h => ?_)
  obtain ⟨rfl, rfl, c1, c2⟩ := h
  have d1 : M2 1 = .inr (8, [.ref 2, .null, .null, .null, .null, .null]) := (c1 1 (by omega)).trans ((qset_ne _ _ (by omega)).trans (qset_at _ _ _))
  have d2 : ∀ d, 2 ≤ d → d < 14 → M2 d = eN d (s0 d) := fun d h1 h2 => (c1 d h2).trans ((qset_ne _ _ (by omega)).trans ((qset_ne _ _ (by omega)).trans (a2 d h1 h2)))
  refine EV_putfin dX8_init_27 fkX8_21 rfl fkdX8_21 ⟨by omega, by omega⟩ d1 (Nat.le_of_ble_eq_true rfl) (fun _ => rfl) (fun _ => rfl) ?_
  refine EV_aload_n dX8_init_30 rfl ?_
  refine EV_new (ci := 6) (fs := bl6) (bc := 52) (bs := 400) dX8_init_31 rfl qcok6 ckX8_16 ciX6 cnX6 nf6 ?_
  refine EV_dup dX8_init_34 rfl ?_
  refine EV_aload_n dX8_init_35 rfl ?_
  refine EV_getf dX8_init_36 fkX8_10 ⟨by omega, by omega⟩ ((qset_ne _ _ (by omega)).trans (qset_at _ _ _)) rfl ?_
  refine EV_callI (mc := 45) (ms := 307) (bc := 7) (bs := 93) dX8_init_39 mkX8_18 mfX6_init miX6_init (ct_skI (k := k) (s := 60) (by omega) (qset_at _ _ _)) rfl rfl (Nat.le_of_ble_eq_true rfl) (fun v M3 n3 h => ?_)
  obtain ⟨rfl, rfl, e1, e2⟩ := h
  have f1 : M3 1 = .inr (8, [.ref 2, .ref 14, .null, .null, .null, .null]) := (e1 1 (by omega)).trans ((qset_ne _ _ (by omega)).trans (qset_at _ _ _))
  have f2 : ∀ d, 2 ≤ d → d < 14 → M3 d = eN d (s0 d) := fun d h1 h2 => (e1 d (by omega)).trans ((qset_ne _ _ (by omega)).trans ((qset_ne _ _ (by omega)).trans (d2 d h1 h2)))
  have f3 : ∀ d, d < 46 → M3 (14 + d) = eN (14 + d) (s0 (14 + d)) := fun d h1 => (e1 _ (by omega)).trans ((qset_ne _ _ (by omega)).trans ((qset_ne _ _ (by omega)).trans ((c2 d h1).trans (s0_s s14 h1).symm)))
  refine EV_putfin dX8_init_42 fkX8_25 rfl fkdX8_25 ⟨by omega, by omega⟩ f1 (Nat.le_of_ble_eq_true rfl) (fun _ => rfl) (fun _ => rfl) ?_
  refine EV_aload_n dX8_init_45 rfl ?_
  refine EV_new (ci := 4) (fs := bl4) (bc := 6) (bs := 91) dX8_init_46 rfl qcok4 ckX8_28 ciX4 cnX4 nf4 ?_
  refine EV_dup dX8_init_49 rfl ?_
  refine EV_callI (mc := 1) (ms := 10) (bc := 5) (bs := 81) dX8_init_50 mkX8_30 mfX4_init miX4_init (ct_rtI (k := k + 2) ⟨by omega, Nat.le_refl _⟩ (qset_at _ _ _)) rfl rfl (Nat.le_of_ble_eq_true rfl) (fun v M4 n4 h => ?_)
  obtain ⟨rfl, rfl, rfl⟩ := h
  obtain ⟨g1, g2, g3⟩ := rtM_at (qset (qset M3 1 (.inr (8, [.ref 2, .ref 14, .ref 60, .null, .null, .null]))) 106 (.inr (4, bl4))) 106 106 (Nat.le_refl _)
  have i1 : rtM (qset (qset M3 1 (.inr (8, [.ref 2, .ref 14, .ref 60, .null, .null, .null]))) 106 (.inr (4, bl4))) 106 106 1 = .inr (8, [.ref 2, .ref 14, .ref 60, .null, .null, .null]) := (g3 1 (by omega) (by omega)).trans ((qset_ne _ _ (by omega)).trans (qset_at _ _ _))
  have i2 : ∀ k, 1 < k → k < 106 → rtM (qset (qset M3 1 (.inr (8, [.ref 2, .ref 14, .ref 60, .null, .null, .null]))) 106 (.inr (4, bl4))) 106 106 k = M3 k := fun k h1 h2 => (g3 k (by omega) (by omega)).trans ((qset_ne _ _ (by omega)).trans (qset_ne _ _ (by omega)))
  show EV z (k + 4) mX8_init 53 _ _ (rtM (qset (qset M3 1 (.inr (8, [.ref 2, .ref 14, .ref 60, .null, .null, .null]))) 106 (.inr (4, bl4))) 106 106) 107 5 81 airPost
  generalize rtM (qset (qset M3 1 (.inr (8, [.ref 2, .ref 14, .ref 60, .null, .null, .null]))) 106 (.inr (4, bl4))) 106 106 = M4 at g1 g2 g3 i1 i2 ⊢
  refine EV_putfin dX8_init_53 fkX8_31 rfl fkdX8_31 ⟨by omega, by omega⟩ i1 (Nat.le_of_ble_eq_true rfl) (fun _ => rfl) (fun _ => rfl) ?_
  refine EV_aload_n dX8_init_56 rfl ?_
  refine EV_new (ci := 3) (fs := bl3) (bc := 4) (bs := 78) dX8_init_57 rfl qcok3 ckX8_35 ciX3 cnX3 nf3 ?_
  refine EV_dup dX8_init_60 rfl ?_
  refine EV_aload_n dX8_init_61 rfl ?_
  refine EV_getf dX8_init_62 fkX8_10 ⟨by omega, by omega⟩ ((qset_ne _ _ (by omega)).trans (qset_at _ _ _)) rfl ?_
  refine EV_aload_n dX8_init_65 rfl ?_
  refine EV_getf dX8_init_66 fkX8_21 ⟨by omega, by omega⟩ ((qset_ne _ _ (by omega)).trans (qset_at _ _ _)) rfl ?_
  refine EV_callI (mc := 1) (ms := 25) (bc := 3) (bs := 53) dX8_init_69 mkX8_37 mfX3_init miX3_init (ct_jdI (k := k + 2) (qset_at _ _ _)) rfl rfl (Nat.le_of_ble_eq_true rfl) (fun v M5 n5 h => ?_)
  obtain ⟨rfl, rfl, j1, j2, j3⟩ := h
  have k1 : M5 1 = .inr (8, [.ref 2, .ref 14, .ref 60, .ref 106, .null, .null]) := (j3 1 (by omega)).trans ((qset_ne _ _ (by omega)).trans (qset_at _ _ _))
  have k2 : ∀ k, 1 < k → k < 108 → M5 k = M4 k := fun k h1 h2 => (j3 k h2).trans ((qset_ne _ _ (by omega)).trans (qset_ne _ _ (by omega)))
  refine EV_putfin dX8_init_72 fkX8_40 rfl fkdX8_40 ⟨by omega, by omega⟩ k1 (Nat.le_of_ble_eq_true rfl) (fun _ => rfl) (fun _ => rfl) ?_
  refine EV_aload_n dX8_init_75 rfl ?_
  refine EV_new (ci := 5) (fs := bl3) (bc := 2) (bs := 50) dX8_init_76 rfl qcok5 ckX8_44 ciX5 cnX5 nf5 ?_
  refine EV_dup dX8_init_79 rfl ?_
  refine EV_aload_n dX8_init_80 rfl ?_
  refine EV_getf dX8_init_81 fkX8_10 ⟨by omega, by omega⟩ ((qset_ne _ _ (by omega)).trans (qset_at _ _ _)) rfl ?_
  refine EV_callI (mc := 2) (ms := 50) (bc := 0) (bs := 0) dX8_init_84 mkX8_46 mfX5_init miX5_init (ct_srI (k := k + 2) (qset_at _ _ _)) rfl rfl (Nat.le_of_ble_eq_true rfl) (fun v M6 n6 h => ?_)
  obtain ⟨rfl, rfl, l1, l2, l3, l4⟩ := h
  have m1 : M6 1 = .inr (8, [.ref 2, .ref 14, .ref 60, .ref 106, .ref 108, .null]) := (l4 1 (by omega)).trans ((qset_ne _ _ (by omega)).trans (qset_at _ _ _))
  have m2 : ∀ k, 1 < k → k < 110 → M6 k = M5 k := fun k h1 h2 => (l4 k h2).trans ((qset_ne _ _ (by omega)).trans (qset_ne _ _ (by omega)))
  refine EV_putfin dX8_init_87 fkX8_47 rfl fkdX8_47 ⟨by omega, by omega⟩ m1 (Nat.le_of_ble_eq_true rfl) (fun _ => rfl) (fun _ => rfl) ?_
  refine EV_vret dX8_init_90 rfl ⟨rfl, rfl, fun t h1 h2 => ?_⟩
  by_cases t1 : t = 1
  · subst t1; rw [qset_at]; rfl
  rw [qset_ne _ _ t1]
  rcases (show t < 14 ∨ (14 ≤ t ∧ t < 60) ∨ (60 ≤ t ∧ t < 106) ∨ t = 106 ∨ t = 107 ∨ t = 108 ∨ t = 109 ∨ t = 110 ∨ t = 111 ∨ t = 112 by omega) with h | h | h | rfl | rfl | rfl | rfl | rfl | rfl | rfl
  · rw [m2 _ (by omega) (by omega), k2 _ (by omega) (by omega), i2 _ (by omega) (by omega)]
    exact f2 t (by omega) h
  · rw [m2 _ (by omega) (by omega), k2 _ (by omega) (by omega), i2 _ (by omega) (by omega)]
    have e := f3 (t - 14) (by omega)
    rw [show 14 + (t - 14) = t by omega] at e
    exact e
  · rw [m2 _ (by omega) (by omega), k2 _ (by omega) (by omega), i2 _ (by omega) (by omega)]
    have e := (e2 (t - 60) (by omega)).trans (s0_s s60 (show t - 60 < 46 by omega)).symm
    rw [show 60 + (t - 60) = t by omega] at e
    exact e
  · rw [m2 _ (by omega) (by omega), k2 _ (by omega) (by omega)]; exact g1
  · rw [m2 _ (by omega) (by omega), k2 _ (by omega) (by omega)]; exact g2
  · rw [m2 _ (by omega) (by omega)]; exact j1
  · rw [m2 _ (by omega) (by omega)]; exact j2
  · exact l1
  · exact l2
  · exact l3
end Ctor3
