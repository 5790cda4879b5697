/-! ===== the law: its turns one after another, and its end ===== -/
theorem nI_rem {a N : Nat} (ha : a < 2 ^ 31) (hN : N < 2 ^ 31) : nI a - nI a / nI N * nI N = nI (a % N) := by
  rw [nI_div ha hN, nI_mul, nI_sub (Nat.div_mul_le_self a N)]
  congr 1
  have := Nat.div_add_mod a N
  rw [Nat.mul_comm] at this
  omega
/-- it ends with true -/
abbrev qT1 : qQ := fun v _ _ => v = some (.int 1)
def sumF (σ : qσ) (fc : Nat) : Nat → Nat → Int32 → Int32
  | 0, _, a => a
  | j + 1, i, a => sumF σ fc j (i + 1) (a + manyV σ i 5 fc)
section End1
variable {z : qZ} {k t : Nat} {fc zc nw dc : Nat} {A : aS} {l : Bool} {X : qM} {n bc bs : Nat} {Q : qQ} {σ : qσ}
theorem sum_all (hL : LW σ fc zc nw dc A l) : sumF σ fc 7 6 0 = nI fc := by
  show 0 + finL σ 14 (nI 6 - 6) fc 0 0 + finL σ 14 (nI 7 - 6) fc 0 0 + finL σ 14 (nI 8 - 6) fc 0 0 + finL σ 14 (nI 9 - 6) fc 0 0 + finL σ 14 (nI 10 - 6) fc 0 0 + finL σ 14 (nI 11 - 6) fc 0 0 + finL σ 14 (nI 12 - 6) fc 0 0 = _
  rw [show nI 6 - 6 = 0 by decide, show nI 7 - 6 = 1 by decide, show nI 8 - 6 = 2 by decide, show nI 9 - 6 = 3 by decide, show nI 10 - 6 = 4 by decide, show nI 11 - 6 = 5 by decide, show nI 12 - 6 = 6 by decide, Int32.zero_add]
  exact fin_all hL.2.2.1 (fun k hk => (hL.2.2.2.1.f k hk).st) fc 0 (by omega)
theorem lp_sum (hn : 112 ≤ n) (hL : LW σ fc zc nw dc A l) (w3 : Value) (S : Int64) (kk : ∀ a : Int32, a = nI fc → EV z (k + 8) mL_law 750 [.ref 0, .ref 1, .ref 113, w3, .long S, .null, .int a, .int (nI 13), .null, .null, .null, .null, .null, .null] [] (mm σ X) n bc bs Q) : ∀ (j i : Nat) (a : Int32), i + j = 13 → sumF σ fc j i a = nI fc → EV z (k + 8) mL_law 726 [.ref 0, .ref 1, .ref 113, w3, .long S, .null, .int a, .int (nI i), .null, .null, .null, .null, .null, .null] [] (mm σ X) n bc bs Q := by
  have hO := o_air
  intro j
  induction j with
  | zero =>
    intro i a hi hs
    obtain rfl : i = 13 := by omega
    refine EV_iload dL_law_726 rfl ?_
    refine EV_bipush (v := 13) dL_law_728 (by decide) ?_
    refine EV_icmp_ge 750 dL_law_730 (by decide) (fun c730 => ?_) (fun c730 => ?_)
    · skip
      exact kk a hs
    · skip
      exact absurd (show (13 : Int32) ≤ nI 13 from by decide) c730
  | succ j ih =>
    intro i a hi hs
    refine EV_iload dL_law_726 rfl ?_
    refine EV_bipush (v := 13) dL_law_728 (by decide) ?_
    refine EV_icmp_ge 750 dL_law_730 (by decide) (fun c730 => ?_) (fun c730 => ?_)
    · skip
      exact absurd c730 (nI_ge (a := i) (b := 13) (by omega) (by omega))
    · skip
      refine EV_iload dL_law_733 rfl ?_
      refine EV_aload_n dL_law_735 rfl ?_
      refine EV_iload dL_law_736 rfl ?_
      refine ES_callV dL_law_738 mkL_36 mfX8_many mvX8_many hn o_air rfl (sp_many (z := z) (k := k + 6) hL.1.1 (w := i) (by omega)) rfl rfl (Nat.le_of_ble_eq_true rfl) ?_
      refine EV_iadd dL_law_741 ?_
      refine EV_istore dL_law_742 (Nat.le_of_ble_eq_true rfl) (Nat.le_of_ble_eq_true rfl) rfl ?_
      refine EV_iinc dL_law_744 rfl (Nat.le_of_ble_eq_true rfl) rfl ?_
      refine EV_goto 726 dL_law_747 (by decide) ?_
      rw [show nI i + Int32.ofInt 1 = nI (i + 1) from (nI_succ i).symm]
      exact ih (i + 1) _ (by omega) hs
set_option maxHeartbeats 16000000 in
theorem law_end (hn : 112 ≤ n) (hL : LW σ fc zc nw dc A l) (hnw : nw ≤ 264) (v3 : Int32) (w4 : Value) : EV z (k + 8) mL_law 713 [.ref 0, .ref 1, .ref 113, .int v3, w4, .null, .null, .null, .null, .null, .null, .null, .null, .null] [] (mm σ X) n 0 0 qT1 := by
  have hO := o_air
  have hM : ∀ τ : qσ, mm τ X 1 = .inr (8, oF 8 1 (τ 1)) := fun τ => (mm_at (by omega)).trans (o_air.2 _)
  obtain ⟨b, hb, eb⟩ := near_ge hL (m := 9) (by omega) (by omega)
  obtain ⟨S, hS⟩ : ∃ S, S = dgV σ 5 fc zc nw := ⟨_, rfl⟩
  have k750 : ∀ (τ : qσ), Vis σ τ → WT τ 60 → EV z (k + 8) mL_law 750 [.ref 0, .ref 1, .ref 113, .int v3, .long S, .null, .int (nI fc), .int (nI 13), .null, .null, .null, .null, .null, .null] [] (mm τ X) n 0 0 qT1 := by
    intro τ hv ht
    have hL1 := hL.vis hv ht
    have sm := (sp_many (z := z) (k := k + 6) hL1.1.1 (w := 4) (by omega)).to (congrArg (fun x => some (Value.int x)) hL1.flV) rfl
    obtain ⟨τ2, s2, hv2, ht2⟩ := (ap_near (z := z) (k := k + 2) (m := 9) hL.1 (by omega) (by omega)).to eb _ hv ht
    have hL2 := hL.vis hv2 ht2
    have hB := mean_bd hL2
    have s3 := sp_mean (z := z) (k := k + 7) hL2.1.1 (by omega) (mean_ok hL2 5 0 FP.dconst0 (by omega) zero_bd).1
    refine EV_iload dL_law_750 rfl ?_
    refine EV_aload_n dL_law_752 rfl ?_
    refine EV_iconst (v := 4) dL_law_753 (by decide) ?_
    refine ES_callV dL_law_754 mkL_36 mfX8_many mvX8_many hn o_air rfl sm rfl rfl (Nat.le_of_ble_eq_true rfl) ?_
    refine EV_icmp_ne 787 dL_law_757 (by decide) (fun c757 => ?_) (fun c757 => ?_)
    · skip
      exact absurd rfl c757
    · skip
      refine EV_aload_n dL_law_760 rfl ?_
      refine EV_bipush (v := 9) dL_law_761 (by decide) ?_
      refine ES_callV dL_law_763 mkL_76 mfX8_wouldNear mvX8_wouldNear hn o_air rfl s2 rfl rfl (Nat.le_of_ble_eq_true rfl) ?_
      refine EV_if_lt 787 dL_law_766 (by decide) (fun c766 => ?_) (fun c766 => ?_)
      · skip
        exact absurd c766 (nI_pos (by omega))
      · skip
        refine EV_aload_n dL_law_769 rfl ?_
        refine ES_callV dL_law_770 mkL_79 mfX8_meanCharge mvX8_meanCharge hn o_air rfl s3 rfl rfl (Nat.le_of_ble_eq_true rfl) ?_
        refine EV_dconst1 dL_law_773 ?_
        refine EV_dcmp dL_law_774 ?_
        refine EV_if_gt 787 dL_law_775 (by decide) (fun c775 => ?_) (fun c775 => ?_)
        · skip
          exact absurd c775 (cmp_le1 hB)
        · skip
          refine EV_aload_n dL_law_778 rfl ?_
          refine ES_callV dL_law_779 mkL_79 mfX8_meanCharge mvX8_meanCharge hn o_air rfl s3 rfl rfl (Nat.le_of_ble_eq_true rfl) ?_
          refine EV_dconst0 dL_law_782 ?_
          refine EV_dcmp dL_law_783 ?_
          refine EV_if_ge 789 dL_law_784 (by decide) (fun c784 => ?_) (fun c784 => ?_)
          · skip
            refine EV_aload_n dL_law_789 rfl ?_
            refine EV_callV (mc := 0) (ms := 0) (bc := 0) (bs := 0) dL_law_790 mkL_72 mfX8_digest mvX8_digest (by omega) (hM _) rfl (ct_digest hn hL.1 hv2 ht2) rfl rfl (Nat.le_of_ble_eq_true rfl) (fun v M' n' h => ?_)
            obtain ⟨rfl, ⟨τ3, rfl, hv3, ht3⟩, rfl⟩ := h
            refine EV_lload dL_law_793 rfl ?_
            refine EV_lcmp dL_law_795 ?_
            refine EV_if_ne 803 dL_law_796 (by decide) (fun c796 => ?_) (fun c796 => ?_)
            · skip
              exact absurd (by rw [hS]; simp [lg_cmp]) c796
            · skip
              refine EV_iconst (v := 1) dL_law_799 (by decide) ?_
              refine EV_goto 804 dL_law_800 (by decide) ?_
              exact EV_iret dL_law_804 rfl rfl rfl
          · skip
            exact absurd (cmp_ge0 hB) c784
  refine EV_aload_n dL_law_713 rfl ?_
  refine EV_callV (mc := 0) (ms := 0) (bc := 0) (bs := 0) dL_law_714 mkL_72 mfX8_digest mvX8_digest (by omega) (hM _) rfl (ct_digest hn hL.1 Vis.rf hL.1.2.1) rfl rfl (Nat.le_of_ble_eq_true rfl) (fun v M' n' h => ?_)
  obtain ⟨rfl, ⟨τ3, rfl, hv3, ht3⟩, rfl⟩ := h
  rw [← hS]
  refine EV_lstore dL_law_717 (Nat.le_of_ble_eq_true rfl) (Nat.le_of_ble_eq_true rfl) rfl ?_
  refine EV_iconst (v := 0) dL_law_719 (by decide) ?_
  refine EV_istore dL_law_720 (Nat.le_of_ble_eq_true rfl) (Nat.le_of_ble_eq_true rfl) rfl ?_
  refine EV_bipush (v := 6) dL_law_722 (by decide) ?_
  refine EV_istore dL_law_724 (Nat.le_of_ble_eq_true rfl) (Nat.le_of_ble_eq_true rfl) rfl ?_
  refine lp_sum hn (hL.vis hv3 ht3) (.int v3) S (fun a ha => ?_) 7 6 0 (by omega) (sum_all (hL.vis hv3 ht3))
  rw [ha]
  exact k750 τ3 hv3 ht3
set_option maxHeartbeats 16000000 in
theorem lp_turns (hz : z.1 < 2 ^ 31) : ∀ (j t nw fc zc dc : Nat) (A : aS) (l : Bool) (σ : qσ) (X : qM) (n : Nat), t + j = 44 → nw ≤ 6 * t → LW σ fc zc nw dc A l → PX X → 113 ≤ n → EV z (k + 8) mL_law 176 [.ref 0, .ref 1, .ref 113, .int (bI l), .int (nI t), .null, .null, .null, .null, .null, .null, .null, .null, .null] [] (mm σ X) n (48 * j) (252 * j) qT1 := by
  have hO := o_air
  intro j
  induction j with
  | zero =>
    intro t nw fc zc dc A l σ X n ht hw hL hX hn0
    have hn : 112 ≤ n := by omega
    refine EV_iload dL_law_176 rfl ?_
    refine EV_bipush (v := 44) dL_law_178 (by decide) ?_
    refine EV_icmp_ge 713 dL_law_180 (by decide) (fun c180 => ?_) (fun c180 => ?_)
    · skip
      exact law_end hn hL (by omega) _ _
    · skip
      exact absurd (nI_le (a := 44) (b := t) (by omega) (by omega)) c180
  | succ j ih =>
    intro t nw fc zc dc A l σ X n ht hw hL hX hn0
    have hn : 112 ≤ n := by omega
    have K : NX z k t nw (48 * j) (252 * j) qT1 := by
      intro τ fc' zc' nw' dc' A' l' X' n' hL' hw' hX' hn'
      refine EV_iinc dL_law_707 rfl (Nat.le_of_ble_eq_true rfl) rfl ?_
      refine EV_goto 176 dL_law_710 (by decide) ?_
      rw [show nI t + Int32.ofInt 1 = nI (t + 1) from (nI_succ t).symm]
      exact ih (t + 1) nw' fc' zc' dc' A' l' τ X' n' (by omega) (by omega) hL' hX' hn'
    rw [show 48 * (j + 1) = 48 * j + 48 by omega, show 252 * (j + 1) = 252 * j + 252 by omega]
    have k221 : ∀ (x y : Int32), EV z (k + 8) mL_law 221 [.ref 0, .ref 1, .ref 113, .int (bI l), .int (nI t), .int x, .int y, .null, .null, .null, .null, .null, .null, .null] [] (mm σ X) n (48 * j + 48) (252 * j + 252) qT1 := by
      intro x y
      have hd := blw_lt x (N := 13) (by omega)
      have hc := blw_lt y (N := 5) (by omega)
      refine EV_iload dL_law_221 rfl ?_
      refine EV_iconst (v := 5) dL_law_223 (by decide) ?_
      refine ES_callS dL_law_224 mkL_22 mfL_below msL_below hn (sp_below' z (k + 7) _ 5 5 rfl (by omega) (by omega)) rfl rfl (Nat.le_of_ble_eq_true rfl) ?_
      refine EV_istore dL_law_227 (Nat.le_of_ble_eq_true rfl) (Nat.le_of_ble_eq_true rfl) rfl ?_
      refine EV_iload dL_law_229 rfl ?_
      refine EV_bipush (v := 13) dL_law_231 (by decide) ?_
      refine ES_callS dL_law_233 mkL_22 mfL_below msL_below hn (sp_below' z (k + 7) _ 13 13 rfl (by omega) (by omega)) rfl rfl (Nat.le_of_ble_eq_true rfl) ?_
      generalize blw x 13 = d at hd ⊢
      generalize blw y 5 = c at hc ⊢
      by_cases h9 : 9 < d
      · refine EV_tableOut 672 dL_law_236 (Or.inr (by rw [nI_toInt (by omega)]; omega)) (by decide) ?_
        exact turnD hn0 hL hX x y (by omega) K
      · refine EV_more (bc := 48 * j) (bs := 252 * j) (by omega) (by omega) ?_
        rcases (show d = 0 ∨ d = 1 ∨ d = 2 ∨ d = 3 ∨ d = 4 ∨ d = 5 ∨ d = 6 ∨ d = 7 ∨ d = 8 ∨ d = 9 by omega) with rfl | rfl | rfl | rfl | rfl | rfl | rfl | rfl | rfl | rfl
        · refine EV_tableIn 292 dL_law_236 (by decide) (by decide) rfl (by decide) ?_
          exact turn0 hn0 hL hX x y hc K
        · refine EV_tableIn 318 dL_law_236 (by decide) (by decide) rfl (by decide) ?_
          exact turn1 hn0 hL hX x y hc K
        · refine EV_tableIn 382 dL_law_236 (by decide) (by decide) rfl (by decide) ?_
          exact turn2 hn0 hL hX x y hc K
        · refine EV_tableIn 475 dL_law_236 (by decide) (by decide) rfl (by decide) ?_
          exact turn3 hn0 hL hX x y hc K
        · refine EV_tableIn 536 dL_law_236 (by decide) (by decide) rfl (by decide) ?_
          exact turn4 hn0 hL hX x y hc K
        · refine EV_tableIn 590 dL_law_236 (by decide) (by decide) rfl (by decide) ?_
          exact turn5 hn0 hL hX x y hc K
        · refine EV_tableIn 590 dL_law_236 (by decide) (by decide) rfl (by decide) ?_
          exact turn5 hn0 hL hX x y hc K
        · refine EV_tableIn 590 dL_law_236 (by decide) (by decide) rfl (by decide) ?_
          exact turn5 hn0 hL hX x y hc K
        · refine EV_tableIn 590 dL_law_236 (by decide) (by decide) rfl (by decide) ?_
          exact turn5 hn0 hL hX x y hc K
        · refine EV_tableIn 610 dL_law_236 (by decide) (by decide) rfl (by decide) ?_
          exact turn9 hn0 hL hX x y hc K
    have hr1 : nI t - nI t / 16 * 16 = nI (t % 16) := nI_rem (N := 16) (by omega) (by omega)
    have hr2 : (7 * nI t + 3) - (7 * nI t + 3) / 16 * 16 = nI ((7 * t + 3) % 16) := by
      rw [show 7 * nI t + 3 = nI (7 * t + 3) by rw [show 7 * nI t = nI (7 * t) from nI_mul 7 t]; exact nI_add (7 * t) 3]
      exact nI_rem (N := 16) (by omega) (by omega)
    refine EV_iload dL_law_176 rfl ?_
    refine EV_bipush (v := 44) dL_law_178 (by decide) ?_
    refine EV_icmp_ge 713 dL_law_180 (by decide) (fun c180 => ?_) (fun c180 => ?_)
    · skip
      exact absurd c180 (nI_ge (a := t) (b := 44) (by omega) (by omega))
    · skip
      refine EV_aload_n dL_law_183 rfl ?_
      refine EV_iload dL_law_184 rfl ?_
      refine EV_bipush (v := 16) dL_law_186 (by decide) ?_
      refine EV_irem dL_law_188 (by decide) ?_
      rw [hr1]
      refine ES_callS dL_law_189 mkL_16 mfL_cell msL_cell hn (sp_cell z (k + 7) hz (by omega)) rfl rfl (Nat.le_of_ble_eq_true rfl) ?_
      refine EV_bipush (v := 31) dL_law_192 (by decide) ?_
      refine EV_iload dL_law_194 rfl ?_
      refine EV_imul dL_law_196 ?_
      refine EV_iadd dL_law_197 ?_
      refine EV_istore dL_law_198 (Nat.le_of_ble_eq_true rfl) (Nat.le_of_ble_eq_true rfl) rfl ?_
      refine EV_aload_n dL_law_200 rfl ?_
      refine EV_bipush (v := 7) dL_law_201 (by decide) ?_
      refine EV_iload dL_law_203 rfl ?_
      refine EV_imul dL_law_205 ?_
      refine EV_iconst (v := 3) dL_law_206 (by decide) ?_
      refine EV_iadd dL_law_207 ?_
      refine EV_bipush (v := 16) dL_law_208 (by decide) ?_
      refine EV_irem dL_law_210 (by decide) ?_
      rw [hr2]
      refine ES_callS dL_law_211 mkL_16 mfL_cell msL_cell hn (sp_cell z (k + 7) hz (by omega)) rfl rfl (Nat.le_of_ble_eq_true rfl) ?_
      refine EV_iconst (v := 5) dL_law_214 (by decide) ?_
      refine EV_iload dL_law_215 rfl ?_
      refine EV_imul dL_law_217 ?_
      refine EV_iadd dL_law_218 ?_
      refine EV_istore dL_law_219 (Nat.le_of_ble_eq_true rfl) (Nat.le_of_ble_eq_true rfl) rfl ?_
      exact k221 _ _
end End1
