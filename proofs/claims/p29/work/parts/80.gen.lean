/-! ===== a minute passes: the whole ===== -/
section Passed3
variable {z : qZ} {k : Nat} {fc zc nw dc : Nat} {A : aS} {l : Bool} {X : qM} {n : Nat} {Q : qQ}
set_option maxHeartbeats 16000000 in
theorem passed98 (hn : 113 ≤ n) {σ : qσ} (hL : LW σ fc zc nw dc A l) (h5 : nw + 1 ≤ 5000) {τ : qσ} {X' : qM} (hv : Vis σ τ) (ht : WT τ 60) {sf : Nat → Int32} (hX : WR X n fc A (fun t => haveF (playF 14 5 fc zc 1 σ) (14 + 4 + t)) 5 sf X') (hs : ∀ t, t < fc → sf t = nI (A.F t).st) :
    EV z (k + 6) mL_isPassed 125 [.ref 1, .int (bI l), .ref (n + 1), .int (nI fc), .ref (n + 2), .ref (n + 3), .int (nI fc), .null, .null, .null, .null, .null, .null, .null, .null] [] (mm τ X') (n + 8) 0 0 (qP fc zc nw dc l X n) := by
  have hO := o_air
  have hn0 := hn
  have hn : 112 ≤ n + 8 := by omega
  have h12 := hL.2.2.1.f12
  have hnw := hL.1.2.2.2.1.2
  obtain ⟨τ1, s1, hv1, ht1⟩ := (ap_many (z := z) (k := k + 4) (w := 13) hL.1 (by omega)) _ hv ht
  obtain ⟨τ2, s2, hv2, ht2⟩ := (ap_near (z := z) (k := k) (m := 1) hL.1 (by omega) (by omega)) _ hv1 ht1
  obtain ⟨τ3, s3, hv3, ht3⟩ := (ap_many (z := z) (k := k + 4) (w := 0) hL.1 (by omega)).to hL.nowV _ hv2 ht2
  obtain ⟨τ4, s4, hv4, ht4⟩ := (ap_many (z := z) (k := k + 4) (w := 8) hL.1 (by omega)) _ hv3 ht3
  have hL4 := hL.vis hv4 ht4
  have s5 := sp_pass (z := z) (k := k) hL4.1 (m := 1) (by omega) (by omega) h5
  obtain ⟨A', w, P, -⟩ := hL4.pass h5
  have hsim := play_vis hv4 hL.1.1 1
  have efin := fin_v hv4 2 fc 0 0 (by omega)
  have hne : l = true → A'.ne = 0 := fun q => (w.2.2.2.2 q).2
  obtain ⟨ρ, hρ⟩ : ∃ ρ, ρ = playF 14 5 fc zc 1 τ4 := ⟨_, rfl⟩
  rw [← hρ] at s5 w hsim
  rw [efin] at s5
  have s6 := sp_many (z := z) (k := k + 4) w.1.1 (w := 0) (by omega)
  have s7 := sp_many (z := z) (k := k + 4) w.1.1 (w := 8) (by omega)
  have s8 := sp_many (z := z) (k := k + 4) w.1.1 (w := 13) (by omega)
  have e6 : manyV ρ 0 5 fc = nI nw + 1 := by rw [w.nowV, nI_1]
  have e7 : manyV ρ 8 5 fc = manyV σ 8 5 fc + (finL ρ 14 2 fc 0 0 - finL σ 14 2 fc 0 0) := by
    show finL ρ 14 (nI 8 - 6) fc 0 0 = finL σ 14 (nI 8 - 6) fc 0 0 + _
    rw [show nI 8 - 6 = 2 by decide, Int32.add_comm, Int32.sub_add_cancel]
  have e8 : manyV ρ 13 5 fc = manyV σ 13 5 fc + (playF 14 5 fc zc 1 σ 14 7 - σ 14 7) := by
    show ρ 14 7 = σ 14 7 + _
    rw [← hsim.sl (j := 7) (by omega), Int32.add_comm, Int32.sub_add_cancel]
  have e9 : l = true → manyV ρ 13 5 fc = 0 := fun q => by
    show ρ 14 7 = 0
    rw [w.2.2.1.near]; exact hne q
  have k226 : ∀ (w9 w10 : Int32) (w6 w7 : Value), EV z (k + 6) mL_isPassed 226 [.ref 1, .int (bI l), .ref (n + 1), .int (nI fc), .ref (n + 2), .ref (n + 3), w6, w7, .int (nI nw), .int w9, .int w10, .null, .null, .null, .null] [] (mm ρ X') (n + 8) 0 0 (qP fc zc nw dc l X n) := by
    intro w9 w10 w6 w7
    have hJ := hL.2.2.2.1
    obtain ⟨x1, x3, ⟨wf, x4, x5⟩, x6, x7⟩ := hX
    have hX2 : WR X n fc A (fun t => haveF ρ (14 + 4 + t)) 5 sf X' := ⟨x1, x3, ⟨wf, x4, fun j hj => (x5 j hj).trans (by
      show haveF _ _ = haveF _ _
      unfold haveF
      rw [hsim.cr (i := j) (by omega) (show 7 < 12 by omega), hsim.cr (i := j) (by omega) (show 4 < 12 by omega)])⟩, x6, x7⟩
    refine EV_iconst (v := 0) dL_isPassed_226 (by decide) ?_
    refine EV_istore dL_isPassed_227 (Nat.le_of_ble_eq_true rfl) (Nat.le_of_ble_eq_true rfl) rfl ?_
    refine lp_flown hn0 w P.hf (fun k hk => (hJ.f k hk).st) x3 hs _ _ _ _ _ _ _ _ _ (fun w12 hw => ?_) fc 0 _ rfl (by omega)
    refine EV_iconst (v := 0) dL_isPassed_340 (by decide) ?_
    refine EV_istore dL_isPassed_341 (Nat.le_of_ble_eq_true rfl) (Nat.le_of_ble_eq_true rfl) rfl ?_
    exact lp_now hn0 w (fun i hi => PC_of (hJ.c i hi) (w.2.2.2.1.c i hi) (P.hc i hi hi)) hX2 _ _ _ _ _ _ _ 5 0 _ _ _ hw rfl rfl (by omega)
  refine EV_aload_n dL_isPassed_125 rfl ?_
  refine EV_bipush (v := 13) dL_isPassed_126 (by decide) ?_
  refine ES_callV dL_isPassed_128 mkL_36 mfX8_many mvX8_many hn o_air rfl s1 rfl rfl (Nat.le_of_ble_eq_true rfl) ?_
  refine EV_istore dL_isPassed_131 (Nat.le_of_ble_eq_true rfl) (Nat.le_of_ble_eq_true rfl) rfl ?_
  refine EV_aload_n dL_isPassed_133 rfl ?_
  refine EV_iconst (v := 1) dL_isPassed_134 (by decide) ?_
  refine ES_callV dL_isPassed_135 mkL_76 mfX8_wouldNear mvX8_wouldNear hn o_air rfl s2 rfl rfl (Nat.le_of_ble_eq_true rfl) ?_
  refine EV_istore dL_isPassed_138 (Nat.le_of_ble_eq_true rfl) (Nat.le_of_ble_eq_true rfl) rfl ?_
  refine EV_aload_n dL_isPassed_140 rfl ?_
  refine EV_iconst (v := 0) dL_isPassed_141 (by decide) ?_
  refine ES_callV dL_isPassed_142 mkL_36 mfX8_many mvX8_many hn o_air rfl s3 rfl rfl (Nat.le_of_ble_eq_true rfl) ?_
  refine EV_istore dL_isPassed_145 (Nat.le_of_ble_eq_true rfl) (Nat.le_of_ble_eq_true rfl) rfl ?_
  refine EV_aload_n dL_isPassed_147 rfl ?_
  refine EV_bipush (v := 8) dL_isPassed_148 (by decide) ?_
  refine ES_callV dL_isPassed_150 mkL_36 mfX8_many mvX8_many hn o_air rfl s4 rfl rfl (Nat.le_of_ble_eq_true rfl) ?_
  refine EV_istore dL_isPassed_153 (Nat.le_of_ble_eq_true rfl) (Nat.le_of_ble_eq_true rfl) rfl ?_
  refine EV_aload_n dL_isPassed_155 rfl ?_
  refine EV_iconst (v := 1) dL_isPassed_156 (by decide) ?_
  refine ES_callV dL_isPassed_157 mkL_107 mfX8_pass mvX8_pass hn o_air rfl s5 rfl rfl (Nat.le_of_ble_eq_true rfl) ?_
  refine EV_istore dL_isPassed_160 (Nat.le_of_ble_eq_true rfl) (Nat.le_of_ble_eq_true rfl) rfl ?_
  refine EV_aload_n dL_isPassed_162 rfl ?_
  refine EV_iconst (v := 0) dL_isPassed_163 (by decide) ?_
  refine ES_callV dL_isPassed_164 mkL_36 mfX8_many mvX8_many hn o_air rfl s6 rfl rfl (Nat.le_of_ble_eq_true rfl) ?_
  refine EV_iload dL_isPassed_167 rfl ?_
  refine EV_iconst (v := 1) dL_isPassed_169 (by decide) ?_
  refine EV_iadd dL_isPassed_170 ?_
  refine EV_icmp_ne 224 dL_isPassed_171 (by decide) (fun c171 => ?_) (fun c171 => ?_)
  · skip
    exact absurd e6 c171
  · skip
    refine EV_aload_n dL_isPassed_174 rfl ?_
    refine EV_bipush (v := 8) dL_isPassed_175 (by decide) ?_
    refine ES_callV dL_isPassed_177 mkL_36 mfX8_many mvX8_many hn o_air rfl s7 rfl rfl (Nat.le_of_ble_eq_true rfl) ?_
    refine EV_iload dL_isPassed_180 rfl ?_
    refine EV_iload dL_isPassed_182 rfl ?_
    refine EV_iadd dL_isPassed_184 ?_
    refine EV_icmp_ne 224 dL_isPassed_185 (by decide) (fun c185 => ?_) (fun c185 => ?_)
    · skip
      exact absurd e7 c185
    · skip
      refine EV_aload_n dL_isPassed_188 rfl ?_
      refine EV_bipush (v := 13) dL_isPassed_189 (by decide) ?_
      refine ES_callV dL_isPassed_191 mkL_36 mfX8_many mvX8_many hn o_air rfl s8 rfl rfl (Nat.le_of_ble_eq_true rfl) ?_
      refine EV_iload dL_isPassed_194 rfl ?_
      refine EV_iload dL_isPassed_196 rfl ?_
      refine EV_iadd dL_isPassed_198 ?_
      refine EV_icmp_ne 224 dL_isPassed_199 (by decide) (fun c199 => ?_) (fun c199 => ?_)
      · skip
        exact absurd e8 c199
      · skip
        refine EV_iload_n dL_isPassed_202 rfl ?_
        refine EV_if_eq 226 dL_isPassed_203 (by decide) (fun c203 => ?_) (fun c203 => ?_)
        · skip
          exact k226 _ _ _ _
        · skip
          refine EV_aload_n dL_isPassed_206 rfl ?_
          refine EV_bipush (v := 13) dL_isPassed_207 (by decide) ?_
          refine ES_callV dL_isPassed_209 mkL_36 mfX8_many mvX8_many hn o_air rfl s8 rfl rfl (Nat.le_of_ble_eq_true rfl) ?_
          refine EV_if_le 226 dL_isPassed_212 (by decide) (fun c212 => ?_) (fun c212 => ?_)
          · skip
            exact k226 _ _ _ _
          · skip
            exact absurd (by rw [e9 (by cases l <;> simp [bI] at c203 ⊢)]; decide) c212
set_option maxHeartbeats 16000000 in
theorem ct_isPassed (hn : 113 ≤ n) {σ : qσ} (hL : LW σ fc zc nw dc A l) (h5 : nw + 1 ≤ 5000) : CT z (k + 6) mL_isPassed [.ref 1, .int (bI l)] (mm σ X) n 8 42 (qP fc zc nw dc l X n) := by
  refine CT_of 13 (by decide) (Nat.le_of_ble_eq_true rfl) ?_
  have h12 := hL.2.2.1.f12
  have hO := o_air
  have hn0 := hn
  have hn : 112 ≤ n + 1 := by omega
  obtain ⟨τ1, s1, hv1, ht1⟩ := (ap_many (z := z) (k := k + 4) (w := 4) hL.1 (by omega)).to hL.flV _ Vis.rf hL.1.2.1
  have k98 : ∀ τ' X', Vis σ τ' → WT τ' 60 → WR X n fc A (fun t => haveF (playF 14 5 fc zc 1 σ) (14 + 4 + t)) 5 (fun _ => 0) X' → EV z (k + 6) mL_isPassed 98 [.ref 1, .int (bI l), .ref (n + 1), .int (nI fc), .ref (n + 2), .ref (n + 3), .int (nI 5), .null, .null, .null, .null, .null, .null, .null, .null] [] (mm τ' X') (n + 8) 0 0 (qP fc zc nw dc l X n) := by
    intro τ' X' hv ht hX
    refine EV_iconst (v := 0) dL_isPassed_98 (by decide) ?_
    refine EV_istore dL_isPassed_99 (Nat.le_of_ble_eq_true rfl) (Nat.le_of_ble_eq_true rfl) rfl ?_
    exact lp_states hn0 hL _ _ _ _ _ _ _ _ _ fc 0 τ' X' _ hv ht (by omega) hX (fun t ht => absurd ht (by omega)) (fun τ2 X2 sf hv2 ht2 hX2 hs => passed98 hn0 hL h5 hv2 ht2 hX2 hs)
  refine EV_more (bc := 5 + 1 + 1 + 1) (bs := 20 + 5 + fc + 5) (by omega) (by omega) ?_
  refine EV_iconst (v := 5) dL_isPassed_0 (by decide) ?_
  refine EV_anewA dL_isPassed_1 ckL_102 (qAOi aoI) (by decide) (show (5 : Int32).toNatClampNeg = 5 by decide) (by decide) ?_
  rw [mm_set (by omega)]
  refine EV_astore_n dL_isPassed_4 (Nat.le_of_ble_eq_true rfl) (Nat.le_of_ble_eq_true rfl) rfl ?_
  refine EV_aload_n dL_isPassed_5 rfl ?_
  refine EV_iconst (v := 4) dL_isPassed_6 (by decide) ?_
  refine ES_callV dL_isPassed_7 mkL_36 mfX8_many mvX8_many hn o_air rfl s1 rfl rfl (Nat.le_of_ble_eq_true rfl) ?_
  refine EV_istore_n dL_isPassed_10 (Nat.le_of_ble_eq_true rfl) (Nat.le_of_ble_eq_true rfl) rfl ?_
  refine EV_iload_n dL_isPassed_11 rfl ?_
  refine EV_newI dL_isPassed_12 (nI_pos (by omega)) (nI_clamp (by omega)) (by omega) ?_
  rw [mm_set (by omega)]
  refine EV_astore dL_isPassed_14 (Nat.le_of_ble_eq_true rfl) (Nat.le_of_ble_eq_true rfl) rfl ?_
  refine EV_iconst (v := 5) dL_isPassed_16 (by decide) ?_
  refine EV_newI dL_isPassed_17 (by decide) (show (5 : Int32).toNatClampNeg = 5 by decide) (by decide) ?_
  rw [mm_set (by omega)]
  refine EV_astore dL_isPassed_19 (Nat.le_of_ble_eq_true rfl) (Nat.le_of_ble_eq_true rfl) rfl ?_
  refine EV_iconst (v := 0) dL_isPassed_21 (by decide) ?_
  refine EV_istore dL_isPassed_22 (Nat.le_of_ble_eq_true rfl) (Nat.le_of_ble_eq_true rfl) rfl ?_
  refine lp_were hn0 hL _ _ _ _ _ _ _ _ _ _ 5 0 τ1 _ hv1 ht1 (by omega) ⟨⟨fun _ => none, ?_, fun j hj => absurd hj (by omega)⟩, ?_, ⟨fun _ => 0, ?_, fun j hj => absurd hj (by omega)⟩, fun j hj => absurd hj (by omega), fun t ht => ?_⟩ k98
  · exact (qset_ne _ _ (by omega)).trans ((qset_ne _ _ (by omega)).trans (qset_at _ _ _))
  · exact (qset_ne _ _ (by omega)).trans (qset_at _ _ _)
  · exact qset_at _ _ _
  · rw [qset_ne _ _ (by omega), qset_ne _ _ (by omega), qset_ne _ _ (by omega)]
end Passed3
