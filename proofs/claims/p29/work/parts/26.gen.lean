/-! ===== the search, the counts, the copy of a sky ===== -/
/-- only the search's own rows have changed -/
def Se (σ σ' : qσ) : Prop := ∀ k, k ≠ 111 → k ≠ 112 → σ' k = σ k
theorem Se.rf {σ : qσ} : Se σ σ := fun _ _ _ => rfl
theorem Se.tr {σ σ1 σ2 : qσ} (h : Se σ σ1) (g : Se σ1 σ2) : Se σ σ2 := fun k h1 h2 => (g k h1 h2).trans (h k h1 h2)
theorem Se.set1 {σ σ1 : qσ} (h : Se σ σ1) (j : Nat) (v : Int32) : Se σ (sset σ1 111 j v) := fun k h1 h2 => (sset_ne _ _ _ h1).trans (h k h1 h2)
theorem Se.set2 {σ σ1 : qσ} (h : Se σ σ1) (j : Nat) (v : Int32) : Se σ (sset σ1 112 j v) := fun k h1 h2 => (sset_ne _ _ _ h2).trans (h k h1 h2)
theorem Se.row {σ σ1 : qσ} (h : Se σ σ1) (g : Nat → Int32) : Se σ (srow σ1 112 g) := fun k h1 h2 => (srow_ne _ _ h2).trans (h k h1 h2)
theorem Se.if {σ σ1 σ2 : qσ} {p : Prop} [Decidable p] (h1 : Se σ σ1) (h2 : Se σ σ2) : Se σ (if p then σ1 else σ2) := by
  by_cases h : p
  · rw [if_pos h]; exact h1
  · rw [if_neg h]; exact h2
theorem WF.se {σ σ' : qσ} {s cc fc zc : Nat} (h : WF σ s cc fc zc) (hp : Se σ σ') : WF σ' s cc fc zc := by
  obtain ⟨hs, h1, h2, h3, h4, h5⟩ := h
  have hl := hs.le
  refine ⟨hs, ⟨?_, h1.2⟩, ⟨?_, h2.2⟩, ⟨?_, h3.2⟩, fun i hi => ?_, fun i hi => ?_⟩
  · rw [hp s (by omega) (by omega)]; exact h1.1
  · rw [hp s (by omega) (by omega)]; exact h2.1
  · rw [hp 2 (by omega) (by omega)]; exact h3.1
  · rw [hp _ (by rcases hs with rfl | rfl <;> omega) (by rcases hs with rfl | rfl <;> omega)]; exact h4 i hi
  · rw [hp _ (by rcases hs with rfl | rfl <;> omega) (by rcases hs with rfl | rfl <;> omega)]; exact h5 i hi
def sprB (σ : qσ) (c d : Nat) (by' : Bool) : Bool :=
  if bI (isCellF (neighF (nI c) d)) = 0 then false else if σ 111 (neighF (nI c) d).toNatClampNeg = 0 then false else
    if bI by' = 0 then (if σ 112 (nI c).toNatClampNeg + 1 < σ 112 (neighF (nI c) d).toNatClampNeg then true else false)
    else if σ 112 (nI c).toNatClampNeg + costF σ (nI d) < σ 112 (neighF (nI c) d).toNatClampNeg then true else false
def sprS (σ : qσ) (c d : Nat) (by' : Bool) : qσ :=
  if bI (isCellF (neighF (nI c) d)) = 0 then σ else if σ 111 (neighF (nI c) d).toNatClampNeg = 0 then σ else
    if bI by' = 0 then (if σ 112 (nI c).toNatClampNeg + 1 < σ 112 (neighF (nI c) d).toNatClampNeg then sset σ 112 (neighF (nI c) d).toNatClampNeg (σ 112 (nI c).toNatClampNeg + 1) else σ)
    else if σ 112 (nI c).toNatClampNeg + costF σ (nI d) < σ 112 (neighF (nI c) d).toNatClampNeg then sset σ 112 (neighF (nI c) d).toNatClampNeg (σ 112 (nI c).toNatClampNeg + costF σ (nI d)) else σ
theorem sprS_se {σ : qσ} {c d : Nat} {by' : Bool} : Se σ (sprS σ c d by') := Se.if Se.rf (Se.if Se.rf (Se.if (Se.if (Se.rf.set2 _ _) Se.rf) (Se.if (Se.rf.set2 _ _) Se.rf)))
section Sr
variable {z : qZ} {k : Nat} {X : qM} {n : Nat}
set_option maxHeartbeats 8000000 in
theorem sp_spread {σ : qσ} {c d : Nat} (by' : Bool) (hc : c < 25) (hd : d < 4) : SP z (k + 2) mX5_spread [.ref 110, .int (nI c), .int (nI d), .int (bI by')] σ (some (.int (bI (sprB σ c d by')))) (sprS σ c d by') := by
  refine SP_of 2 (by decide) (Nat.le_of_ble_eq_true rfl) fun X n hn => ?_
  have hci : vp_in (nI c) 25 := vp_in_nI hc (by omega)
  refine EV_iload_n dX5_spread_0 rfl ?_
  refine EV_iload_n dX5_spread_1 rfl ?_
  refine ES_callS dX5_spread_2 mkX5_64 mfX2_neighbour msX2_neighbour hn (sp_neighbour z (k + 1) (nI c) hd) rfl rfl (Nat.le_of_ble_eq_true rfl) ?_
  refine EV_istore dX5_spread_5 (Nat.le_of_ble_eq_true rfl) (Nat.le_of_ble_eq_true rfl) rfl ?_
  refine EV_iload dX5_spread_7 rfl ?_
  refine ES_callS dX5_spread_9 mkX5_52 mfX8_isCell msX8_isCell hn (sp_isCell z (k + 1) _) rfl rfl (Nat.le_of_ble_eq_true rfl) ?_
  refine EV_if_eq 25 dX5_spread_12 (by decide) (fun c12 => ?_) (fun c12 => ?_)
  · skip
    refine EV_iconst (v := 0) dX5_spread_25 (by decide) ?_
    exact ES_iret dX5_spread_26 rfl rfl (by simp only [sprB, if_pos c12]; try rfl) (by simp only [sprS, if_pos c12])
  · skip
    refine EV_aload_n dX5_spread_15 rfl ?_
    refine ES_getf dX5_spread_16 fkX5_9 hn o_search rfl ?_
    refine EV_iload dX5_spread_19 rfl ?_
    refine ES_zald dX5_spread_21 hn a_open (isCell_in c12) ?_
    refine EV_if_ne 27 dX5_spread_22 (by decide) (fun c22 => ?_) (fun c22 => ?_)
    · skip
      refine EV_aload_n dX5_spread_27 rfl ?_
      refine ES_getf dX5_spread_28 fkX5_15 hn o_search rfl ?_
      refine EV_iload_n dX5_spread_31 rfl ?_
      refine ES_iald dX5_spread_32 hn a_reached hci ?_
      refine EV_iload_n dX5_spread_33 rfl ?_
      refine EV_if_eq 48 dX5_spread_34 (by decide) (fun c34 => ?_) (fun c34 => ?_)
      · skip
        refine EV_iconst (v := 1) dX5_spread_48 (by decide) ?_
        refine EV_iadd dX5_spread_49 ?_
        refine EV_istore dX5_spread_50 (Nat.le_of_ble_eq_true rfl) (Nat.le_of_ble_eq_true rfl) rfl ?_
        refine EV_iload dX5_spread_52 rfl ?_
        refine EV_aload_n dX5_spread_54 rfl ?_
        refine ES_getf dX5_spread_55 fkX5_15 hn o_search rfl ?_
        refine EV_iload dX5_spread_58 rfl ?_
        refine ES_iald dX5_spread_60 hn a_reached (isCell_in c12) ?_
        refine EV_icmp_lt 66 dX5_spread_61 (by decide) (fun c61 => ?_) (fun c61 => ?_)
        · skip
          refine EV_aload_n dX5_spread_66 rfl ?_
          refine ES_getf dX5_spread_67 fkX5_15 hn o_search rfl ?_
          refine EV_iload dX5_spread_70 rfl ?_
          refine EV_iload dX5_spread_72 rfl ?_
          refine ES_iast dX5_spread_74 hn a_reached (isCell_in c12) ?_
          refine EV_iconst (v := 1) dX5_spread_75 (by decide) ?_
          exact ES_iret dX5_spread_76 rfl rfl (by simp only [sprB, if_neg c12, if_neg c22, if_pos c34, if_pos c61]; try rfl) (by simp only [sprS, if_neg c12, if_neg c22, if_pos c34, if_pos c61])
        · skip
          refine EV_iconst (v := 0) dX5_spread_64 (by decide) ?_
          exact ES_iret dX5_spread_65 rfl rfl (by simp only [sprB, if_neg c12, if_neg c22, if_pos c34, if_neg c61]; try rfl) (by simp only [sprS, if_neg c12, if_neg c22, if_pos c34, if_neg c61])
      · skip
        refine EV_aload_n dX5_spread_37 rfl ?_
        refine ES_getf dX5_spread_38 fkX5_19 hn o_search rfl ?_
        refine EV_iload_n dX5_spread_41 rfl ?_
        refine ES_callV dX5_spread_42 mkX5_68 mfX2_costOfMove mvX2_costOfMove hn o_ground rfl (sp_costOfMove z k _) rfl rfl (Nat.le_of_ble_eq_true rfl) ?_
        refine EV_goto 49 dX5_spread_45 (by decide) ?_
        refine EV_iadd dX5_spread_49 ?_
        refine EV_istore dX5_spread_50 (Nat.le_of_ble_eq_true rfl) (Nat.le_of_ble_eq_true rfl) rfl ?_
        refine EV_iload dX5_spread_52 rfl ?_
        refine EV_aload_n dX5_spread_54 rfl ?_
        refine ES_getf dX5_spread_55 fkX5_15 hn o_search rfl ?_
        refine EV_iload dX5_spread_58 rfl ?_
        refine ES_iald dX5_spread_60 hn a_reached (isCell_in c12) ?_
        refine EV_icmp_lt 66 dX5_spread_61 (by decide) (fun c61 => ?_) (fun c61 => ?_)
        · skip
          refine EV_aload_n dX5_spread_66 rfl ?_
          refine ES_getf dX5_spread_67 fkX5_15 hn o_search rfl ?_
          refine EV_iload dX5_spread_70 rfl ?_
          refine EV_iload dX5_spread_72 rfl ?_
          refine ES_iast dX5_spread_74 hn a_reached (isCell_in c12) ?_
          refine EV_iconst (v := 1) dX5_spread_75 (by decide) ?_
          exact ES_iret dX5_spread_76 rfl rfl (by simp only [sprB, if_neg c12, if_neg c22, if_neg c34, if_pos c61]; try rfl) (by simp only [sprS, if_neg c12, if_neg c22, if_neg c34, if_pos c61])
        · skip
          refine EV_iconst (v := 0) dX5_spread_64 (by decide) ?_
          exact ES_iret dX5_spread_65 rfl rfl (by simp only [sprB, if_neg c12, if_neg c22, if_neg c34, if_neg c61]; try rfl) (by simp only [sprS, if_neg c12, if_neg c22, if_neg c34, if_neg c61])
    · skip
      refine EV_iconst (v := 0) dX5_spread_25 (by decide) ?_
      exact ES_iret dX5_spread_26 rfl rfl (by simp only [sprB, if_neg c12, if_pos c22]; try rfl) (by simp only [sprS, if_neg c12, if_pos c22])
/-- a cell's four directions: has anything changed, and what there is then -/
def saIn (c : Nat) (by' : Bool) : Nat → Nat → Bool → qσ → Bool × qσ
  | 0, _, ch, σ => (ch, σ)
  | j + 1, d, ch, σ => if 1000000 ≤ σ 112 (nI c).toNatClampNeg then saIn c by' j (d + 1) ch σ
      else saIn c by' j (d + 1) (if bI (sprB σ c d by') = 0 then ch else true) (sprS σ c d by')
def saOut (by' : Bool) : Nat → Nat → Bool → qσ → Bool × qσ
  | 0, _, ch, σ => (ch, σ)
  | j + 1, c, ch, σ => saOut by' j (c + 1) (saIn c by' 4 0 ch σ).1 (saIn c by' 4 0 ch σ).2
theorem saIn_se {c : Nat} {by' : Bool} : ∀ (j d : Nat) (ch : Bool) (σ : qσ), Se σ (saIn c by' j d ch σ).2 := by
  intro j
  induction j with
  | zero => intro d ch σ; exact Se.rf
  | succ j ih =>
    intro d ch σ
    simp only [saIn]
    by_cases h : 1000000 ≤ σ 112 (nI c).toNatClampNeg
    · rw [if_pos h]; exact ih _ _ _
    · rw [if_neg h]; exact sprS_se.tr (ih _ _ _)
theorem saOut_se {by' : Bool} : ∀ (j c : Nat) (ch : Bool) (σ : qσ), Se σ (saOut by' j c ch σ).2 := by
  intro j
  induction j with
  | zero => intro c ch σ; exact Se.rf
  | succ j ih => intro c ch σ; exact (saIn_se 4 0 ch σ).tr (ih _ _ _)
set_option maxHeartbeats 8000000 in
theorem lp_saIn (hn : 112 ≤ n) {c : Nat} (hc : c < 25) (by' : Bool) {Q : qQ} : ∀ (j d : Nat) (ch : Bool) (σ : qσ), d + j = 4 →
    EV z (k + 3) mX5_spreadAll 49 [.ref 110, .int (bI by'), .int (bI (saIn c by' j d ch σ).1), .int (nI c), .int (nI 4)] [] (mm (saIn c by' j d ch σ).2 X) n 0 0 Q → EV z (k + 3) mX5_spreadAll 13 [.ref 110, .int (bI by'), .int (bI ch), .int (nI c), .int (nI d)] [] (mm σ X) n 0 0 Q := by
  have hci : vp_in (nI c) 25 := vp_in_nI hc (by omega)
  intro j
  induction j with
  | zero =>
    intro d ch σ hd kk
    refine EV_iload dX5_spreadAll_13 rfl ?_
    refine EV_iconst (v := 4) dX5_spreadAll_15 (by decide) ?_
    refine EV_icmp_ge 49 dX5_spreadAll_16 (by decide) (fun c16 => ?_) (fun c16 => ?_)
    · skip
      rw [show d = 4 by omega]; exact kk
    · skip
      exact absurd (nI_le (a := 4) (b := d) (by omega) (by omega)) c16
  | succ j ih =>
    intro d ch σ hd kk
    refine EV_iload dX5_spreadAll_13 rfl ?_
    refine EV_iconst (v := 4) dX5_spreadAll_15 (by decide) ?_
    refine EV_icmp_ge 49 dX5_spreadAll_16 (by decide) (fun c16 => ?_) (fun c16 => ?_)
    · skip
      exact absurd c16 (nI_ge (a := d) (b := 4) (by omega) (by omega))
    · skip
      refine EV_aload_n dX5_spreadAll_19 rfl ?_
      refine ES_getf dX5_spreadAll_20 fkX5_15 hn o_search rfl ?_
      refine EV_iload_n dX5_spreadAll_23 rfl ?_
      refine ES_iald dX5_spreadAll_24 hn a_reached hci ?_
      refine EV_ldc dX5_spreadAll_25 kkX5_42 ?_
      refine EV_icmp_ge 43 dX5_spreadAll_27 (by decide) (fun c27 => ?_) (fun c27 => ?_)
      · skip
        refine EV_iinc dX5_spreadAll_43 rfl (Nat.le_of_ble_eq_true rfl) rfl ?_
        refine EV_goto 13 dX5_spreadAll_46 (by decide) ?_
        rw [show nI d + Int32.ofInt 1 = nI (d + 1) from (nI_succ d).symm]
        simp only [saIn, if_neg c16, if_pos c27] at kk
        exact ih (d + 1) _ _ (by omega) kk
      · skip
        refine EV_aload_n dX5_spreadAll_30 rfl ?_
        refine EV_iload_n dX5_spreadAll_31 rfl ?_
        refine EV_iload dX5_spreadAll_32 rfl ?_
        refine EV_iload_n dX5_spreadAll_34 rfl ?_
        refine ES_callV dX5_spreadAll_35 mkX5_60 mfX5_spread mvX5_spread hn o_search rfl (sp_spread by' hc (show d < 4 by omega)) rfl rfl (Nat.le_of_ble_eq_true rfl) ?_
        refine EV_if_eq 43 dX5_spreadAll_38 (by decide) (fun c38 => ?_) (fun c38 => ?_)
        · skip
          refine EV_iinc dX5_spreadAll_43 rfl (Nat.le_of_ble_eq_true rfl) rfl ?_
          refine EV_goto 13 dX5_spreadAll_46 (by decide) ?_
          rw [show nI d + Int32.ofInt 1 = nI (d + 1) from (nI_succ d).symm]
          simp only [saIn, if_neg c16, if_neg c27, if_pos c38] at kk
          exact ih (d + 1) _ _ (by omega) kk
        · skip
          refine EV_iconst (v := 1) dX5_spreadAll_41 (by decide) ?_
          refine EV_istore_n dX5_spreadAll_42 (Nat.le_of_ble_eq_true rfl) (Nat.le_of_ble_eq_true rfl) rfl ?_
          refine EV_iinc dX5_spreadAll_43 rfl (Nat.le_of_ble_eq_true rfl) rfl ?_
          refine EV_goto 13 dX5_spreadAll_46 (by decide) ?_
          rw [show nI d + Int32.ofInt 1 = nI (d + 1) from (nI_succ d).symm]
          simp only [saIn, if_neg c16, if_neg c27, if_neg c38] at kk
          exact ih (d + 1) _ _ (by omega) kk
set_option maxHeartbeats 8000000 in
theorem lp_saOut (hn : 112 ≤ n) (by' : Bool) : ∀ (j c : Nat) (ch : Bool) (σ : qσ) (w4 : Value), w4.category = 1 → c + j = 25 →
    EV z (k + 3) mX5_spreadAll 4 [.ref 110, .int (bI by'), .int (bI ch), .int (nI c), w4] [] (mm σ X) n 0 0 (qRes (some (.int (bI (saOut by' j c ch σ).1))) (mm (saOut by' j c ch σ).2 X) n) := by
  intro j
  induction j with
  | zero =>
    intro c ch σ w4 h4 hc
    refine EV_iload_n dX5_spreadAll_4 rfl ?_
    refine EV_bipush (v := 25) dX5_spreadAll_5 (by decide) ?_
    refine EV_icmp_ge 55 dX5_spreadAll_7 (by decide) (fun c7 => ?_) (fun c7 => ?_)
    · skip
      refine EV_iload_n dX5_spreadAll_55 rfl ?_
      exact ES_iret dX5_spreadAll_56 rfl (bI_nar _) rfl rfl
    · skip
      exact absurd (nI_le (a := 25) (b := c) (by omega) (by omega)) c7
  | succ j ih =>
    intro c ch σ w4 h4 hc
    refine EV_iload_n dX5_spreadAll_4 rfl ?_
    refine EV_bipush (v := 25) dX5_spreadAll_5 (by decide) ?_
    refine EV_icmp_ge 55 dX5_spreadAll_7 (by decide) (fun c7 => ?_) (fun c7 => ?_)
    · skip
      exact absurd c7 (nI_ge (a := c) (b := 25) (by omega) (by omega))
    · skip
      refine EV_iconst (v := 0) dX5_spreadAll_10 (by decide) ?_
      refine EV_istore dX5_spreadAll_11 (Nat.le_of_ble_eq_true rfl) (Nat.le_of_ble_eq_true rfl) rfl ?_
      rw [saOut]
      refine lp_saIn hn (show c < 25 by omega) by' 4 0 ch σ rfl ?_
      refine EV_iinc dX5_spreadAll_49 rfl (Nat.le_of_ble_eq_true rfl) rfl ?_
      refine EV_goto 4 dX5_spreadAll_52 (by decide) ?_
      rw [show nI c + Int32.ofInt 1 = nI (c + 1) from (nI_succ c).symm]
      exact ih (c + 1) _ _ _ rfl (by omega)
theorem sp_spreadAll (σ : qσ) (by' : Bool) : SP z (k + 3) mX5_spreadAll [.ref 110, .int (bI by')] σ (some (.int (bI (saOut by' 25 0 false σ).1))) (saOut by' 25 0 false σ).2 := by
  refine SP_of 3 (by decide) (Nat.le_of_ble_eq_true rfl) fun X n hn => ?_
  refine EV_iconst (v := 0) dX5_spreadAll_0 (by decide) ?_
  refine EV_istore_n dX5_spreadAll_1 (Nat.le_of_ble_eq_true rfl) (Nat.le_of_ble_eq_true rfl) rfl ?_
  refine EV_iconst (v := 0) dX5_spreadAll_2 (by decide) ?_
  refine EV_istore_n dX5_spreadAll_3 (Nat.le_of_ble_eq_true rfl) (Nat.le_of_ble_eq_true rfl) rfl ?_
  exact lp_saOut hn by' 25 0 false σ _ rfl rfl
def openL (rc zc : Nat) (now : Int32) : Nat → Nat → qσ → qσ
  | 0, _, σ => σ
  | j + 1, i, σ => openL rc zc now j (i + 1) (sset σ 111 (nI i).toNatClampNeg (if σ 4 (nI i).toNatClampNeg = 0 then (if bI (isShutF σ zc (nI i) (σ rc 0) now) = 0 then 1 else 0) else 0))
def roundL (by' : Bool) : Nat → Bool → qσ → qσ
  | 0, _, σ => σ
  | j + 1, ch, σ => if bI ch = 0 then σ else roundL by' j (saOut by' 25 0 false σ).1 (saOut by' 25 0 false σ).2
def leastS (σ : qσ) (rc zc : Nat) (now : Int32) (by' : Bool) : qσ :=
  let σ1 := openL rc zc now 25 0 σ
  let σ2 := srow σ1 112 (fillF 25 1000000 (σ1 112))
  roundL by' 25 true (if bI (isCellF (σ2 rc 8)) = 0 then σ2 else sset σ2 112 (σ2 rc 8).toNatClampNeg 0)
def leastF (σ : qσ) (rc zc : Nat) (tg now : Int32) (by' : Bool) : Int32 := if 1000000 ≤ leastS σ rc zc now by' 112 tg.toNatClampNeg then -1 else leastS σ rc zc now by' 112 tg.toNatClampNeg
theorem openL_se {rc zc : Nat} {now : Int32} : ∀ (j i : Nat) (σ : qσ), Se σ (openL rc zc now j i σ) := by
  intro j
  induction j with
  | zero => intro i σ; exact Se.rf
  | succ j ih => intro i σ; exact (Se.rf.set1 _ _).tr (ih _ _)
theorem roundL_se {by' : Bool} : ∀ (j : Nat) (ch : Bool) (σ : qσ), Se σ (roundL by' j ch σ) := by
  intro j
  induction j with
  | zero => intro ch σ; exact Se.rf
  | succ j ih =>
    intro ch σ
    simp only [roundL]
    exact Se.if Se.rf ((saOut_se _ _ _ _).tr (ih _ _))
theorem leastS_se {σ : qσ} {rc zc : Nat} {now : Int32} {by' : Bool} : Se σ (leastS σ rc zc now by') := by
  have h1 : Se σ _ := openL_se (rc := rc) (zc := zc) (now := now) 25 0 σ
  have h2 : Se σ _ := h1.row (fillF 25 1000000 (openL rc zc now 25 0 σ 112))
  exact (h2.tr (Se.if Se.rf (Se.rf.set2 _ _))).tr (roundL_se _ _ _)
set_option maxHeartbeats 8000000 in
theorem lp_open (hn : 112 ≤ n) {rc cc fc zc : Nat} (hC : isO 0 rc) (tg now : Int32) (by' : Bool) {Q : qQ} : ∀ (j i : Nat) (σ : qσ) (w6 : Value), WF σ 14 cc fc zc → i + j = 25 →
    EV z (k + 4) mX5_least 58 [.ref 110, .ref rc, .int tg, .int now, .int (bI by'), .int (nI 25), w6] [] (mm (openL rc zc now j i σ) X) n 0 0 Q → EV z (k + 4) mX5_least 3 [.ref 110, .ref rc, .int tg, .int now, .int (bI by'), .int (nI i), w6] [] (mm σ X) n 0 0 Q := by
  intro j
  induction j with
  | zero =>
    intro i σ w6 hW hi kk
    refine EV_iload dX5_least_3 rfl ?_
    refine EV_bipush (v := 25) dX5_least_5 (by decide) ?_
    refine EV_icmp_ge 58 dX5_least_7 (by decide) (fun c7 => ?_) (fun c7 => ?_)
    · skip
      rw [show i = 25 by omega]; exact kk
    · skip
      exact absurd (nI_le (a := 25) (b := i) (by omega) (by omega)) c7
  | succ j ih =>
    intro i σ w6 hW hi kk
    have hin : vp_in (nI i) 25 := vp_in_nI (by omega) (by omega)
    refine EV_iload dX5_least_3 rfl ?_
    refine EV_bipush (v := 25) dX5_least_5 (by decide) ?_
    refine EV_icmp_ge 58 dX5_least_7 (by decide) (fun c7 => ?_) (fun c7 => ?_)
    · skip
      exact absurd c7 (nI_ge (a := i) (b := 25) (by omega) (by omega))
    · skip
      refine EV_aload_n dX5_least_10 rfl ?_
      refine ES_getf dX5_least_11 fkX5_9 hn o_search rfl ?_
      refine EV_iload dX5_least_14 rfl ?_
      refine EV_aload_n dX5_least_16 rfl ?_
      refine ES_getf dX5_least_17 fkX5_19 hn o_search rfl ?_
      refine ES_getf dX5_least_20 fkX5_27 hn o_ground rfl ?_
      refine EV_iload dX5_least_23 rfl ?_
      refine ES_zald dX5_least_25 hn a_towers hin ?_
      refine EV_if_ne 50 dX5_least_26 (by decide) (fun c26 => ?_) (fun c26 => ?_)
      · skip
        refine EV_iconst (v := 0) dX5_least_50 (by decide) ?_
        refine ES_zast dX5_least_51 hn a_open hin rfl ?_
        refine EV_iinc dX5_least_52 rfl (Nat.le_of_ble_eq_true rfl) rfl ?_
        refine EV_goto 3 dX5_least_55 (by decide) ?_
        rw [show nI i + Int32.ofInt 1 = nI (i + 1) from (nI_succ i).symm]
        simp only [openL, if_neg c7, if_neg c26] at kk
        exact ih (i + 1) _ _ (hW.se (Se.rf.set1 _ _)) (by omega) kk
      · skip
        refine EV_aload_n dX5_least_29 rfl ?_
        refine ES_getf dX5_least_30 fkX5_19 hn o_search rfl ?_
        refine EV_iload dX5_least_33 rfl ?_
        refine EV_aload_n dX5_least_35 rfl ?_
        refine ES_getf dX5_least_36 fkX5_32 hn (by assumption) rfl ?_
        refine EV_iload_n dX5_least_39 rfl ?_
        refine ES_callV dX5_least_40 mkX5_38 mfX2_isShut mvX2_isShut hn o_ground rfl (sp_isShut z (k + 2) hW.2.2.2.1.1 hW.2.2.2.1.2 _ _ _) rfl rfl (Nat.le_of_ble_eq_true rfl) ?_
        refine EV_if_ne 50 dX5_least_43 (by decide) (fun c43 => ?_) (fun c43 => ?_)
        · skip
          refine EV_iconst (v := 0) dX5_least_50 (by decide) ?_
          refine ES_zast dX5_least_51 hn a_open hin rfl ?_
          refine EV_iinc dX5_least_52 rfl (Nat.le_of_ble_eq_true rfl) rfl ?_
          refine EV_goto 3 dX5_least_55 (by decide) ?_
          rw [show nI i + Int32.ofInt 1 = nI (i + 1) from (nI_succ i).symm]
          simp only [openL, if_neg c7, if_pos c26, if_neg c43] at kk
          exact ih (i + 1) _ _ (hW.se (Se.rf.set1 _ _)) (by omega) kk
        · skip
          refine EV_iconst (v := 1) dX5_least_46 (by decide) ?_
          refine EV_goto 51 dX5_least_47 (by decide) ?_
          refine ES_zast dX5_least_51 hn a_open hin rfl ?_
          refine EV_iinc dX5_least_52 rfl (Nat.le_of_ble_eq_true rfl) rfl ?_
          refine EV_goto 3 dX5_least_55 (by decide) ?_
          rw [show nI i + Int32.ofInt 1 = nI (i + 1) from (nI_succ i).symm]
          simp only [openL, if_neg c7, if_pos c26, if_pos c43] at kk
          exact ih (i + 1) _ _ (hW.se (Se.rf.set1 _ _)) (by omega) kk
set_option maxHeartbeats 8000000 in
theorem lp_round (hn : 112 ≤ n) {rc : Nat} {tg now : Int32} (htg : vp_in tg 25) (by' : Bool) : ∀ (j i : Nat) (ch : Bool) (σ : qσ), i + j = 25 →
    EV z (k + 4) mX5_least 93 [.ref 110, .ref rc, .int tg, .int now, .int (bI by'), .int (bI ch), .int (nI i)] [] (mm σ X) n 0 0 (qRes (some (.int (if 1000000 ≤ roundL by' j ch σ 112 tg.toNatClampNeg then -1 else roundL by' j ch σ 112 tg.toNatClampNeg))) (mm (roundL by' j ch σ) X) n) := by
  intro j
  induction j with
  | zero =>
    intro i ch σ hi
    refine EV_iload dX5_least_93 rfl ?_
    refine EV_bipush (v := 25) dX5_least_95 (by decide) ?_
    refine EV_icmp_ge 119 dX5_least_97 (by decide) (fun c97 => ?_) (fun c97 => ?_)
    · skip
      refine EV_aload_n dX5_least_119 rfl ?_
      refine ES_getf dX5_least_120 fkX5_15 hn o_search rfl ?_
      refine EV_iload_n dX5_least_123 rfl ?_
      refine ES_iald dX5_least_124 hn a_reached htg ?_
      refine EV_ldc dX5_least_125 kkX5_42 ?_
      refine EV_icmp_ge 139 dX5_least_127 (by decide) (fun c127 => ?_) (fun c127 => ?_)
      · skip
        refine EV_iconst (v := (-1)) dX5_least_139 (by decide) ?_
        exact ES_iret dX5_least_140 rfl rfl (by show some (Value.int _) = some (Value.int (if 1000000 ≤ σ 112 tg.toNatClampNeg then (-1 : Int32) else σ 112 tg.toNatClampNeg)); simp only [if_pos c97, if_pos c127]) rfl
      · skip
        refine EV_aload_n dX5_least_130 rfl ?_
        refine ES_getf dX5_least_131 fkX5_15 hn o_search rfl ?_
        refine EV_iload_n dX5_least_134 rfl ?_
        refine ES_iald dX5_least_135 hn a_reached htg ?_
        refine EV_goto 140 dX5_least_136 (by decide) ?_
        exact ES_iret dX5_least_140 rfl rfl (by show some (Value.int _) = some (Value.int (if 1000000 ≤ σ 112 tg.toNatClampNeg then (-1 : Int32) else σ 112 tg.toNatClampNeg)); simp only [if_pos c97, if_neg c127]) rfl
    · skip
      exact absurd (nI_le (a := 25) (b := i) (by omega) (by omega)) c97
  | succ j ih =>
    intro i ch σ hi
    refine EV_iload dX5_least_93 rfl ?_
    refine EV_bipush (v := 25) dX5_least_95 (by decide) ?_
    refine EV_icmp_ge 119 dX5_least_97 (by decide) (fun c97 => ?_) (fun c97 => ?_)
    · skip
      exact absurd c97 (nI_ge (a := i) (b := 25) (by omega) (by omega))
    · skip
      refine EV_iload dX5_least_100 rfl ?_
      refine EV_if_eq 119 dX5_least_102 (by decide) (fun c102 => ?_) (fun c102 => ?_)
      · skip
        refine EV_aload_n dX5_least_119 rfl ?_
        refine ES_getf dX5_least_120 fkX5_15 hn o_search rfl ?_
        refine EV_iload_n dX5_least_123 rfl ?_
        refine ES_iald dX5_least_124 hn a_reached htg ?_
        refine EV_ldc dX5_least_125 kkX5_42 ?_
        refine EV_icmp_ge 139 dX5_least_127 (by decide) (fun c127 => ?_) (fun c127 => ?_)
        · skip
          refine EV_iconst (v := (-1)) dX5_least_139 (by decide) ?_
          exact ES_iret dX5_least_140 rfl rfl (by simp only [roundL, if_neg c97, if_pos c102, if_pos c127]; try rfl) (by simp only [roundL, if_neg c97, if_pos c102, if_pos c127])
        · skip
          refine EV_aload_n dX5_least_130 rfl ?_
          refine ES_getf dX5_least_131 fkX5_15 hn o_search rfl ?_
          refine EV_iload_n dX5_least_134 rfl ?_
          refine ES_iald dX5_least_135 hn a_reached htg ?_
          refine EV_goto 140 dX5_least_136 (by decide) ?_
          exact ES_iret dX5_least_140 rfl rfl (by simp only [roundL, if_neg c97, if_pos c102, if_neg c127]; try rfl) (by simp only [roundL, if_neg c97, if_pos c102, if_neg c127])
      · skip
        refine EV_aload_n dX5_least_105 rfl ?_
        refine EV_iload dX5_least_106 rfl ?_
        refine ES_callV dX5_least_108 mkX5_56 mfX5_spreadAll mvX5_spreadAll hn o_search rfl (sp_spreadAll σ by') rfl rfl (Nat.le_of_ble_eq_true rfl) ?_
        refine EV_istore dX5_least_111 (Nat.le_of_ble_eq_true rfl) (Nat.le_of_ble_eq_true rfl) rfl ?_
        refine EV_iinc dX5_least_113 rfl (Nat.le_of_ble_eq_true rfl) rfl ?_
        refine EV_goto 93 dX5_least_116 (by decide) ?_
        rw [show nI i + Int32.ofInt 1 = nI (i + 1) from (nI_succ i).symm]
        simp only [roundL, if_neg c97, if_neg c102]
        exact ih (i + 1) _ _ (by omega)
set_option maxHeartbeats 8000000 in
theorem least67 (hn : 112 ≤ n) {σ : qσ} {rc : Nat} (hC : isO 0 rc) {tg : Int32} (htg : vp_in tg 25) (now : Int32) (by' : Bool) (w5 : Int32) (w6 : Value) :
    EV z (k + 4) mX5_least 67 [.ref 110, .ref rc, .int tg, .int now, .int (bI by'), .int w5, w6] [] (mm σ X) n 0 0 (qRes (some (.int (if 1000000 ≤ roundL by' 25 true (if bI (isCellF (σ rc 8)) = 0 then σ else sset σ 112 (σ rc 8).toNatClampNeg 0) 112 tg.toNatClampNeg then -1 else roundL by' 25 true (if bI (isCellF (σ rc 8)) = 0 then σ else sset σ 112 (σ rc 8).toNatClampNeg 0) 112 tg.toNatClampNeg))) (mm (roundL by' 25 true (if bI (isCellF (σ rc 8)) = 0 then σ else sset σ 112 (σ rc 8).toNatClampNeg 0)) X) n) := by
  refine EV_aload_n dX5_least_67 rfl ?_
  refine ES_getf dX5_least_68 fkX5_49 hn (by assumption) rfl ?_
  refine ES_callS dX5_least_71 mkX5_52 mfX8_isCell msX8_isCell hn (sp_isCell z (k + 3) _) rfl rfl (Nat.le_of_ble_eq_true rfl) ?_
  refine EV_if_eq 87 dX5_least_74 (by decide) (fun c74 => ?_) (fun c74 => ?_)
  · skip
    refine EV_iconst (v := 1) dX5_least_87 (by decide) ?_
    refine EV_istore dX5_least_88 (Nat.le_of_ble_eq_true rfl) (Nat.le_of_ble_eq_true rfl) rfl ?_
    refine EV_iconst (v := 0) dX5_least_90 (by decide) ?_
    refine EV_istore dX5_least_91 (Nat.le_of_ble_eq_true rfl) (Nat.le_of_ble_eq_true rfl) rfl ?_
    simp only [if_pos c74]
    exact lp_round hn htg by' 25 0 true _ rfl
  · skip
    refine EV_aload_n dX5_least_77 rfl ?_
    refine ES_getf dX5_least_78 fkX5_15 hn o_search rfl ?_
    refine EV_aload_n dX5_least_81 rfl ?_
    refine ES_getf dX5_least_82 fkX5_49 hn (by assumption) rfl ?_
    refine EV_iconst (v := 0) dX5_least_85 (by decide) ?_
    refine ES_iast dX5_least_86 hn a_reached (isCell_in c74) ?_
    refine EV_iconst (v := 1) dX5_least_87 (by decide) ?_
    refine EV_istore dX5_least_88 (Nat.le_of_ble_eq_true rfl) (Nat.le_of_ble_eq_true rfl) rfl ?_
    refine EV_iconst (v := 0) dX5_least_90 (by decide) ?_
    refine EV_istore dX5_least_91 (Nat.le_of_ble_eq_true rfl) (Nat.le_of_ble_eq_true rfl) rfl ?_
    simp only [if_neg c74]
    exact lp_round hn htg by' 25 0 true _ rfl
set_option maxHeartbeats 8000000 in
theorem sp_least {σ : qσ} {rc cc fc zc : Nat} (hW : WF σ 14 cc fc zc) (hC : isO 0 rc) {tg : Int32} (htg : vp_in tg 25) (now : Int32) (by' : Bool) : SP z (k + 4) mX5_least [.ref 110, .ref rc, .int tg, .int now, .int (bI by')] σ (some (.int (leastF σ rc zc tg now by'))) (leastS σ rc zc now by') := by
  refine SP_of 2 (by decide) (Nat.le_of_ble_eq_true rfl) fun X n hn => ?_
  refine EV_iconst (v := 0) dX5_least_0 (by decide) ?_
  refine EV_istore dX5_least_1 (Nat.le_of_ble_eq_true rfl) (Nat.le_of_ble_eq_true rfl) rfl ?_
  refine lp_open hn hC tg now by' 25 0 σ _ hW rfl ?_
  refine EV_aload_n dX5_least_58 rfl ?_
  refine ES_getf dX5_least_59 fkX5_15 hn o_search rfl ?_
  refine EV_ldc dX5_least_62 kkX5_42 ?_
  refine ES_callS dX5_least_64 mkX5_43 mfJ7_fill msJ7_fill hn (sp_fill z (k + 3) 1000000 a_reached (by omega)) rfl rfl (Nat.le_of_ble_eq_true rfl) ?_
  exact least67 hn hC htg now by' _ _
end Sr
