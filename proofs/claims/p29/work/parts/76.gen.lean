/-! ===== a flight is asked for: the whole ===== -/
/-- the law's row of pads -/
abbrev PX (X : qM) : Prop := ∃ pf : Nat → Int32, X 113 = .inl (0, 5, .inl pf) ∧ ∀ p, p < 5 → pf p = nI (pdN p)
section Asked4
variable {z : qZ} {k : Nat} {fc zc nw dc : Nat} {A : aS} {l : Bool} {X : qM} {n : Nat} {c : Nat}
set_option maxHeartbeats 16000000 in
theorem ct_isAsked (hn : 113 ≤ n) {σ : qσ} (hL : LW σ fc zc nw dc A l) (hX : PX X) (hc : c < 5) (x y : Int32) : CT z (k + 6) mL_isAsked [.ref 1, .ref 113, .int (nI c), .int x, .int y] (mm σ X) n 0 0 (qL zc nw l X n) := by
  refine CT_of 9 (by decide) (Nat.le_of_ble_eq_true rfl) ?_
  have hn : 112 ≤ n := by omega
  have hn3 : 0 < 113 ∧ 113 ≤ n := by omega
  have hO := o_air
  obtain ⟨pf, hX1, hX2⟩ := hX
  have hM : ∀ τ : qσ, mm τ X 113 = .inl (0, 5, .inl pf) := fun τ => (if_neg (by omega)).trans hX1
  have hL1 := hL.clear
  have hdc := hL.1.2.2.2.2
  obtain ⟨τ1, s1, hv1, ht1⟩ := (ap_many (z := z) (k := k + 4) (w := 5) hL1.1 (by omega)).to (show _ = (0 : Int32) from hL1.drV) _ Vis.rf hL1.1.2.1
  have hRc := hL1.2.2.1.cr c hc
  have hCI := hL1.2.2.2.1.c c hc
  obtain ⟨τ2, s2, hv2, ht2⟩ := (ap_craft (z := z) (k := k + 3) (i := c) (w := 6) hL1.1 hc (by omega)).to (show _ = nI (A.C c).st from hRc.h7) _ hv1 ht1
  obtain ⟨τ3, s3, hv3, ht3⟩ := (ap_craft (z := z) (k := k + 3) (i := c) (w := 7) hL1.1 hc (by omega)).to (show _ = nI (A.C c).ce from hRc.h8) _ hv2 ht2
  have k44 : ∀ (a : Nat) (τ : qσ), isPd a → Vis (sset σ 106 1 0) τ → WT τ 60 → EV z (k + 6) mL_isAsked 44 [.ref 1, .ref 113, .int (nI c), .int x, .int y, .null, .null, .null, .null, .null, .null, .null, .null, .null] [.int (nI a)] (mm τ X) n 0 0 (qL zc nw l X n) := by
    intro a τ ha hv ht
    have ha25 := isPd_lt ha
    have hLt := hL1.vis hv ht
    obtain ⟨p, hp⟩ : ∃ p, p = blw y 5 := ⟨_, rfl⟩
    have hp5 : p < 5 := by rw [hp]; exact blw_lt _ (by omega)
    have sb : SP z (k + 5) mL_below [.int y, .int 5] τ (some (.int (nI p))) τ := by rw [hp]; exact sp_below' z (k + 5) y 5 5 rfl (by omega) (by omega)
    have ht25 := isPd_lt (isPd_pdN hp5)
    have ep : pf (nI p).toNatClampNeg = nI (pdN p) := by rw [nI_clamp (by omega), hX2 p hp5]
    refine EV_istore dL_isAsked_44 (Nat.le_of_ble_eq_true rfl) (Nat.le_of_ble_eq_true rfl) rfl ?_
    refine EV_aload_n dL_isAsked_46 rfl ?_
    refine EV_iload dL_isAsked_47 rfl ?_
    refine EV_iconst (v := 5) dL_isAsked_49 (by decide) ?_
    refine ES_callS dL_isAsked_50 mkL_22 mfL_below msL_below hn sb rfl rfl (Nat.le_of_ble_eq_true rfl) ?_
    refine EV_iald dL_isAsked_53 hn3 (hM τ) (vp_in_nI hp5 (by omega)) ?_
    rw [ep]
    refine EV_istore dL_isAsked_54 (Nat.le_of_ble_eq_true rfl) (Nat.le_of_ble_eq_true rfl) rfl ?_
    refine EV_iload dL_isAsked_56 rfl ?_
    refine EV_iload dL_isAsked_58 rfl ?_
    refine EV_icmp_ne 65 dL_isAsked_60 (by decide) (fun c60 => ?_) (fun c60 => ?_)
    · skip
      refine EV_iconst (v := 0) dL_isAsked_65 (by decide) ?_
      refine EV_istore dL_isAsked_66 (Nat.le_of_ble_eq_true rfl) (Nat.le_of_ble_eq_true rfl) rfl ?_
      refine EV_iload dL_isAsked_68 rfl ?_
      refine EV_istore dL_isAsked_70 (Nat.le_of_ble_eq_true rfl) (Nat.le_of_ble_eq_true rfl) rfl ?_
      have hat : a ≠ pdN p := fun e => c60 (by rw [e])
      refine lp_path hn ht25 hat _ _ _ _ _ (farN a (pdN p)) 0 a τ (fun _ => 0) rfl (by have := far_le ha25 ht25; omega) ⟨⟨hLt.1.2.2.2.2.1, fun k hk => by omega⟩, ha25, fun j hj => by omega, fun j hj => by omega, fun _ => rfl, fun h => by omega⟩ hLt ?_
      intro σ' dc' dr' hL' hd' hw'
      have h145 := asked145 (z := z) (k := k) (X := X) (n := n) hn hL' hd' ⟨hw'.1.1, hw'.1.2, hw'.2.1, hw'.2.2.1, by rw [hw'.2.2.2.1]; exact ha, by rw [hw'.2.2.2.2]; exact isPd_pdN hp5⟩ hc y (.int x) (.int (nI (pdN p))) (.int (nI (pdN p))) .null .null .null .null .null
      rw [hw'.2.2.2.1] at h145
      exact h145
    · skip
      refine EV_iconst (v := 1) dL_isAsked_63 (by decide) ?_
      exact EV_iret dL_isAsked_64 rfl rfl ⟨rfl, ⟨τ, _, _, _, rfl, hLt⟩, rfl⟩
  obtain ⟨q, hq⟩ : ∃ q, q = blw x 5 := ⟨_, rfl⟩
  have hq5 : q < 5 := by rw [hq]; exact blw_lt _ (by omega)
  have sq : SP z (k + 5) mL_below [.int x, .int 5] τ2 (some (.int (nI q))) τ2 := by rw [hq]; exact sp_below' z (k + 5) x 5 5 rfl (by omega) (by omega)
  have eq : pf (nI q).toNatClampNeg = nI (pdN q) := by rw [nI_clamp (by omega), hX2 q hq5]
  refine EV_aload_n dL_isAsked_0 rfl ?_
  refine ES_callV dL_isAsked_1 mkL_83 mfX8_clear mvX8_clear hn o_air rfl (sp_clear (k := k + 5)) rfl rfl (Nat.le_of_ble_eq_true rfl) ?_
  refine EV_if_lt 15 dL_isAsked_4 (by decide) (fun c4 => ?_) (fun c4 => ?_)
  · skip
    exact absurd c4 (by rw [hdc.1]; exact nI_pos (by omega))
  · skip
    refine EV_aload_n dL_isAsked_7 rfl ?_
    refine EV_iconst (v := 5) dL_isAsked_8 (by decide) ?_
    refine ES_callV dL_isAsked_9 mkL_36 mfX8_many mvX8_many hn o_air rfl s1 rfl rfl (Nat.le_of_ble_eq_true rfl) ?_
    refine EV_if_eq 17 dL_isAsked_12 (by decide) (fun c12 => ?_) (fun c12 => ?_)
    · skip
      refine EV_aload_n dL_isAsked_17 rfl ?_
      refine EV_iload_n dL_isAsked_18 rfl ?_
      refine EV_bipush (v := 6) dL_isAsked_19 (by decide) ?_
      refine ES_callV dL_isAsked_21 mkL_49 mfX8_ofCraft mvX8_ofCraft hn o_air rfl s2 rfl rfl (Nat.le_of_ble_eq_true rfl) ?_
      refine EV_if_ne 37 dL_isAsked_24 (by decide) (fun c24 => ?_) (fun c24 => ?_)
      · skip
        refine EV_aload_n dL_isAsked_37 rfl ?_
        refine EV_iload_n dL_isAsked_38 rfl ?_
        refine EV_iconst (v := 5) dL_isAsked_39 (by decide) ?_
        refine ES_callS dL_isAsked_40 mkL_22 mfL_below msL_below hn sq rfl rfl (Nat.le_of_ble_eq_true rfl) ?_
        refine EV_iald dL_isAsked_43 hn3 (hM τ2) (vp_in_nI hq5 (by omega)) ?_
        rw [eq]
        exact k44 _ _ (isPd_pdN hq5) hv2 ht2
      · skip
        refine EV_aload_n dL_isAsked_27 rfl ?_
        refine EV_iload_n dL_isAsked_28 rfl ?_
        refine EV_bipush (v := 7) dL_isAsked_29 (by decide) ?_
        refine ES_callV dL_isAsked_31 mkL_49 mfX8_ofCraft mvX8_ofCraft hn o_air rfl s3 rfl rfl (Nat.le_of_ble_eq_true rfl) ?_
        refine EV_goto 44 dL_isAsked_34 (by decide) ?_
        refine k44 _ _ (hCI.lies ?_) hv3 ht3
        exact (nI_eq0 (by have := hCI.st; omega)).mp c24
    · skip
      exact absurd rfl c12
end Asked4
