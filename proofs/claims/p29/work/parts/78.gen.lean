/-! ===== a minute passes: what was ===== -/
/-- the rows that hold what was: n cells stood before them -/
abbrev WR (X0 : qM) (n fc : Nat) (A : aS) (H : Nat → Int32) (i : Nat) (sf : Nat → Int32) (X : qM) : Prop :=
  (∃ g, X (n + 1) = .inl (5, 5, .inr (.inr (.inr (.inr g)))) ∧ ∀ j, j < i → g j = some (n + 4 + j)) ∧ (X (n + 2) = .inl (0, fc, .inl sf)) ∧
  (∃ wf, X (n + 3) = .inl (0, 5, .inl wf) ∧ ∀ j, j < i → wf j = H j) ∧
  (∀ j, j < i → ∃ r : Nat → Int32, X (n + 4 + j) = .inl (0, 4, .inl r) ∧ r 0 = nI (A.C j).st ∧ r 1 = nI (A.C j).ce ∧ r 2 = nI (A.C j).ch) ∧
  (∀ k, k ≤ n → X k = X0 k)
section Passed1
variable {z : qZ} {k : Nat} {fc zc nw dc : Nat} {A : aS} {l : Bool} {X0 : qM} {n : Nat} {Q : qQ}
theorem mm_gt {σ : qσ} {X : qM} {r : Nat} (h : 112 < r) : mm σ X r = X r := if_neg (by omega)
set_option maxHeartbeats 16000000 in
theorem lp_were (hn : 113 ≤ n) {σ : qσ} (hL : LW σ fc zc nw dc A l) (w1 w3 : Value) {sf : Nat → Int32} (w7 w8 w9 w10 w11 w12 w13 w14 : Value) :
    ∀ (j i : Nat) (τ : qσ) (X : qM), Vis σ τ → WT τ 60 → i + j = 5 → WR X0 n fc A (fun t => haveF (playF 14 5 fc zc 1 σ) (14 + 4 + t)) i sf X →
    (∀ τ' X', Vis σ τ' → WT τ' 60 → WR X0 n fc A (fun t => haveF (playF 14 5 fc zc 1 σ) (14 + 4 + t)) 5 sf X' → EV z (k + 6) mL_isPassed 98 [.ref 1, w1, .ref (n + 1), w3, .ref (n + 2), .ref (n + 3), .int (nI 5), w7, w8, w9, w10, w11, w12, w13, w14] [] (mm τ' X') (n + 8) 0 0 Q) →
    EV z (k + 6) mL_isPassed 24 [.ref 1, w1, .ref (n + 1), w3, .ref (n + 2), .ref (n + 3), .int (nI i), w7, w8, w9, w10, w11, w12, w13, w14] [] (mm τ X) (n + 3 + i) j (4 * j) Q := by
  have hO := o_air
  intro j
  induction j with
  | zero =>
    intro i τ X hv ht hi hX kk
    obtain rfl : i = 5 := by omega
    refine EV_iload dL_isPassed_24 rfl ?_
    refine EV_iconst (v := 5) dL_isPassed_26 (by decide) ?_
    refine EV_icmp_ge 98 dL_isPassed_27 (by decide) (fun c27 => ?_) (fun c27 => ?_)
    · skip
      exact kk τ X hv ht hX
    · skip
      exact absurd (show (5 : Int32) ≤ nI 5 from by decide) c27
  | succ j ih =>
    intro i τ X hv ht hi hX kk
    obtain ⟨⟨g, x1, x2⟩, x3, ⟨wf, x4, x5⟩, x6, x7⟩ := hX
    have hRc := hL.2.2.1.cr i (by omega)
    obtain ⟨τ1, s1, hv1, ht1⟩ := (ap_craft (z := z) (k := k + 3) (i := i) (w := 6) hL.1 (by omega) (by omega)).to (show _ = nI (A.C i).st from hRc.h7) _ hv ht
    obtain ⟨τ2, s2, hv2, ht2⟩ := (ap_craft (z := z) (k := k + 3) (i := i) (w := 7) hL.1 (by omega) (by omega)).to (show _ = nI (A.C i).ce from hRc.h8) _ hv1 ht1
    obtain ⟨τ3, s3, hv3, ht3⟩ := (ap_craft (z := z) (k := k + 3) (i := i) (w := 3) hL.1 (by omega) (by omega)).to (show _ = nI (A.C i).ch from hRc.h4) _ hv2 ht2
    obtain ⟨τ4, s4, hv4, ht4⟩ := (ap_craft (z := z) (k := k + 3) (i := i) (w := 8) hL.1 (by omega) (by omega)) _ hv3 ht3
    obtain ⟨τ5, s5, hv5, ht5⟩ := (ap_have (z := z) (k := k) (i := i) (m := 1) hL.1 (by omega) (by omega) (by omega)) _ hv4 ht4
    have r0 : 112 < n + 3 + i + 1 := by omega
    have rn : 0 < n + 3 + i + 1 ∧ n + 3 + i + 1 ≤ n + 3 + i + 1 := by omega
    have hn2 : 112 ≤ n + 3 + i + 1 := by omega
    have hn := hn2
    rw [show 4 * (j + 1) = 4 * j + 4 by omega]
    refine EV_iload dL_isPassed_24 rfl ?_
    refine EV_iconst (v := 5) dL_isPassed_26 (by decide) ?_
    refine EV_icmp_ge 98 dL_isPassed_27 (by decide) (fun c27 => ?_) (fun c27 => ?_)
    · skip
      exact absurd c27 (nI_ge (a := i) (b := 5) (by omega) (by omega))
    · skip
      refine EV_aload_n dL_isPassed_30 rfl ?_
      refine EV_iload dL_isPassed_31 rfl ?_
      refine EV_iconst (v := 4) dL_isPassed_33 (by decide) ?_
      refine EV_newI dL_isPassed_34 (by decide) (show (4 : Int32).toNatClampNeg = 4 by decide) (by decide) ?_
      rw [mm_set r0]
      refine EV_dup dL_isPassed_36 rfl ?_
      refine EV_iconst (v := 0) dL_isPassed_37 (by decide) ?_
      refine EV_aload_n dL_isPassed_38 rfl ?_
      refine EV_iload dL_isPassed_39 rfl ?_
      refine EV_bipush (v := 6) dL_isPassed_41 (by decide) ?_
      refine ES_callV dL_isPassed_43 mkL_49 mfX8_ofCraft mvX8_ofCraft hn o_air rfl s1 rfl rfl (Nat.le_of_ble_eq_true rfl) ?_
      refine EV_iast dL_isPassed_46 rn ((mm_gt r0).trans (qset_at _ _ _)) (vp_in_nI (n := 0) (by omega) (by omega)) ?_
      rw [mm_set r0, qset_qset]
      refine EV_dup dL_isPassed_47 rfl ?_
      refine EV_iconst (v := 1) dL_isPassed_48 (by decide) ?_
      refine EV_aload_n dL_isPassed_49 rfl ?_
      refine EV_iload dL_isPassed_50 rfl ?_
      refine EV_bipush (v := 7) dL_isPassed_52 (by decide) ?_
      refine ES_callV dL_isPassed_54 mkL_49 mfX8_ofCraft mvX8_ofCraft hn o_air rfl s2 rfl rfl (Nat.le_of_ble_eq_true rfl) ?_
      refine EV_iast dL_isPassed_57 rn ((mm_gt r0).trans (qset_at _ _ _)) (vp_in_nI (n := 1) (by omega) (by omega)) ?_
      rw [mm_set r0, qset_qset]
      refine EV_dup dL_isPassed_58 rfl ?_
      refine EV_iconst (v := 2) dL_isPassed_59 (by decide) ?_
      refine EV_aload_n dL_isPassed_60 rfl ?_
      refine EV_iload dL_isPassed_61 rfl ?_
      refine EV_iconst (v := 3) dL_isPassed_63 (by decide) ?_
      refine ES_callV dL_isPassed_64 mkL_49 mfX8_ofCraft mvX8_ofCraft hn o_air rfl s3 rfl rfl (Nat.le_of_ble_eq_true rfl) ?_
      refine EV_iast dL_isPassed_67 rn ((mm_gt r0).trans (qset_at _ _ _)) (vp_in_nI (n := 2) (by omega) (by omega)) ?_
      rw [mm_set r0, qset_qset]
      refine EV_dup dL_isPassed_68 rfl ?_
      refine EV_iconst (v := 3) dL_isPassed_69 (by decide) ?_
      refine EV_aload_n dL_isPassed_70 rfl ?_
      refine EV_iload dL_isPassed_71 rfl ?_
      refine EV_bipush (v := 8) dL_isPassed_73 (by decide) ?_
      refine ES_callV dL_isPassed_75 mkL_49 mfX8_ofCraft mvX8_ofCraft hn o_air rfl s4 rfl rfl (Nat.le_of_ble_eq_true rfl) ?_
      refine EV_iast dL_isPassed_78 rn ((mm_gt r0).trans (qset_at _ _ _)) (vp_in_nI (n := 3) (by omega) (by omega)) ?_
      rw [mm_set r0, qset_qset]
      refine EV_aastA (g := g) dL_isPassed_79 (by omega) rn ((mm_gt (by omega)).trans ((qset_ne _ _ (by omega)).trans x1)) ((mm_gt r0).trans (qset_at _ _ _)) (vp_in_nI (n := i) (by omega) (by omega)) ?_
      rw [mm_set (by omega)]
      refine EV_aload dL_isPassed_80 rfl ?_
      refine EV_iload dL_isPassed_82 rfl ?_
      refine EV_aload_n dL_isPassed_84 rfl ?_
      refine EV_iload dL_isPassed_85 rfl ?_
      refine EV_iconst (v := 1) dL_isPassed_87 (by decide) ?_
      refine ES_callV dL_isPassed_88 mkL_104 mfX8_wouldHave mvX8_wouldHave hn o_air rfl s5 rfl rfl (Nat.le_of_ble_eq_true rfl) ?_
      refine EV_iast (f := wf) dL_isPassed_91 (by omega) ((mm_gt (by omega)).trans ((qset_ne _ _ (by omega)).trans ((qset_ne _ _ (by omega)).trans x4))) (vp_in_nI (n := i) (by omega) (by omega)) ?_
      rw [mm_set (by omega)]
      refine EV_iinc dL_isPassed_92 rfl (Nat.le_of_ble_eq_true rfl) rfl ?_
      refine EV_goto 24 dL_isPassed_95 (by decide) ?_
      rw [show nI i + Int32.ofInt 1 = nI (i + 1) from (nI_succ i).symm]
      refine ih (i + 1) τ5 _ hv5 ht5 (by omega) ⟨⟨va_up g (nI i).toNatClampNeg (some (n + 3 + i + 1)), ?_, ?_⟩, ?_, ⟨upd wf (nI i).toNatClampNeg (haveF (playF 14 5 fc zc 1 σ) (14 + 4 + i)), ?_, ?_⟩, ?_, ?_⟩ kk
      · rw [qset_ne _ _ (by omega), qset_at]
      · intro t ht
        rw [nI_clamp (by omega)]
        show (if t = i then _ else g t) = _
        by_cases e : t = i
        · rw [if_pos e, e]; congr 1; omega
        · rw [if_neg e]; exact x2 t (by omega)
      · rw [qset_ne _ _ (by omega), qset_ne _ _ (by omega), qset_ne _ _ (by omega)]; exact x3
      · rw [qset_at]
      · intro t ht
        rw [nI_clamp (by omega)]
        show (if t = i then _ else wf t) = _
        by_cases e : t = i
        · rw [if_pos e, e]
        · rw [if_neg e]; exact x5 t (by omega)
      · intro t ht
        by_cases e : t = i
        · subst e
          rw [show n + 4 + t = n + 3 + t + 1 by omega]
          exact ⟨_, (qset_ne _ _ (by omega)).trans ((qset_ne _ _ (by omega)).trans (qset_at _ _ _)), rfl, rfl, rfl⟩
        · obtain ⟨r, y1, y2⟩ := x6 t (by omega)
          exact ⟨r, by rw [qset_ne _ _ (by omega), qset_ne _ _ (by omega), qset_ne _ _ (by omega)]; exact y1, y2⟩
      · intro t ht
        rw [qset_ne _ _ (by omega), qset_ne _ _ (by omega), qset_ne _ _ (by omega)]; exact x7 t ht
set_option maxHeartbeats 16000000 in
theorem lp_states (hn : 113 ≤ n) {σ : qσ} (hL : LW σ fc zc nw dc A l) {H : Nat → Int32} (w1 w7 w8 w9 w10 w11 w12 w13 w14 : Value) :
    ∀ (j i : Nat) (τ : qσ) (X : qM) (sf : Nat → Int32), Vis σ τ → WT τ 60 → i + j = fc → WR X0 n fc A H 5 sf X → (∀ t, t < i → sf t = nI (A.F t).st) →
    (∀ τ' X' sf', Vis σ τ' → WT τ' 60 → WR X0 n fc A H 5 sf' X' → (∀ t, t < fc → sf' t = nI (A.F t).st) → EV z (k + 6) mL_isPassed 125 [.ref 1, w1, .ref (n + 1), .int (nI fc), .ref (n + 2), .ref (n + 3), .int (nI fc), w7, w8, w9, w10, w11, w12, w13, w14] [] (mm τ' X') (n + 8) 0 0 Q) →
    EV z (k + 6) mL_isPassed 101 [.ref 1, w1, .ref (n + 1), .int (nI fc), .ref (n + 2), .ref (n + 3), .int (nI i), w7, w8, w9, w10, w11, w12, w13, w14] [] (mm τ X) (n + 8) 0 0 Q := by
  have hO := o_air
  have h12 := hL.2.2.1.f12
  intro j
  induction j with
  | zero =>
    intro i τ X sf hv ht hi hX hs kk
    obtain rfl : i = fc := by omega
    refine EV_iload dL_isPassed_101 rfl ?_
    refine EV_iload_n dL_isPassed_103 rfl ?_
    refine EV_icmp_ge 125 dL_isPassed_104 (by decide) (fun c104 => ?_) (fun c104 => ?_)
    · skip
      exact kk τ X sf hv ht hX hs
    · skip
      exact absurd (nI_le (Nat.le_refl i) (by omega)) c104
  | succ j ih =>
    intro i τ X sf hv ht hi hX hs kk
    have hRf := hL.2.2.1.fl i (by omega)
    obtain ⟨τ1, s1, hv1, ht1⟩ := (ap_flight (z := z) (k := k + 3) (i := i) (w := 0) hL.1 (by omega) (by omega)).to (show _ = nI (A.F i).st from hRf.h2) _ hv ht
    obtain ⟨⟨g, x1, x2⟩, x3, ⟨wf, x4, x5⟩, x6, x7⟩ := hX
    have hn2 : 112 ≤ n + 8 := by omega
    have hn := hn2
    refine EV_iload dL_isPassed_101 rfl ?_
    refine EV_iload_n dL_isPassed_103 rfl ?_
    refine EV_icmp_ge 125 dL_isPassed_104 (by decide) (fun c104 => ?_) (fun c104 => ?_)
    · skip
      exact absurd c104 (nI_ge (a := i) (b := fc) (by omega) (by omega))
    · skip
      refine EV_aload dL_isPassed_107 rfl ?_
      refine EV_iload dL_isPassed_109 rfl ?_
      refine EV_aload_n dL_isPassed_111 rfl ?_
      refine EV_iload dL_isPassed_112 rfl ?_
      refine EV_iconst (v := 0) dL_isPassed_114 (by decide) ?_
      refine ES_callV dL_isPassed_115 mkL_62 mfX8_ofFlight mvX8_ofFlight hn o_air rfl s1 rfl rfl (Nat.le_of_ble_eq_true rfl) ?_
      refine EV_iast (f := sf) dL_isPassed_118 (by omega) ((mm_gt (by omega)).trans x3) (vp_in_nI (n := i) (by omega) (by omega)) ?_
      rw [mm_set (by omega)]
      refine EV_iinc dL_isPassed_119 rfl (Nat.le_of_ble_eq_true rfl) rfl ?_
      refine EV_goto 101 dL_isPassed_122 (by decide) ?_
      rw [show nI i + Int32.ofInt 1 = nI (i + 1) from (nI_succ i).symm]
      refine ih (i + 1) τ1 _ _ hv1 ht1 (by omega) ⟨⟨g, ?_, x2⟩, qset_at _ _ _, ⟨wf, ?_, x5⟩, fun t ht => ?_, fun t ht => ?_⟩ ?_ kk
      · rw [qset_ne _ _ (by omega)]; exact x1
      · rw [qset_ne _ _ (by omega)]; exact x4
      · obtain ⟨r, y1, y2⟩ := x6 t ht
        exact ⟨r, by rw [qset_ne _ _ (by omega)]; exact y1, y2⟩
      · rw [qset_ne _ _ (by omega)]; exact x7 t ht
      · intro t ht
        rw [nI_clamp (by omega)]
        show (if t = i then _ else sf t) = _
        by_cases e : t = i
        · rw [if_pos e, e]
        · rw [if_neg e]; exact hs t (by omega)
end Passed1
