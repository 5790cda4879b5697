/-! ===== leaves: Zone, Route, Ground ===== -/
theorem any_f {n : Nat} {p : Nat → Bool} (h : ∀ t, t < n → p t = false) : (List.range n).any p = false := by
  rw [List.any_eq_false]
  intro x hx
  rw [h x (List.mem_range.mp hx)]
  decide
theorem any_t {n i : Nat} {p : Nat → Bool} (hi : i < n) (h : p i = true) : (List.range n).any p = true := List.any_eq_true.mpr ⟨i, List.mem_range.mpr hi, h⟩
abbrev hourF (m : Int32) : Int32 := m / 60 - m / 60 / 24 * 24
def shutsF (f : Nat → Int32) (a r m : Int32) : Bool :=
  if f 0 = a then (if r < f 3 then
    (if f 2 ≤ f 1 then (if f 1 ≤ hourF m then true else if f 2 ≤ hourF m then false else true)
     else if hourF m < f 1 then false else if f 2 ≤ hourF m then false else true) else false) else false
set_option maxHeartbeats 1000000 in
theorem sp_shuts (z : qZ) (k : Nat) {σ : Nat → Nat → Int32} {rz : Nat} (hz : isO 7 rz) (a r m : Int32) : SP z k mX7_shuts [.ref rz, .int a, .int r, .int m] σ (some (.int (bI (shutsF (σ rz) a r m)))) σ := by
  refine SP_of 1 (by decide) (Nat.le_of_ble_eq_true rfl) fun X n hn => ?_
  refine EV_aload_n dX7_shuts_0 rfl ?_
  refine ES_getf dX7_shuts_1 fkX7_9 hn (by assumption) rfl ?_
  refine EV_iload_n dX7_shuts_4 rfl ?_
  refine EV_icmp_ne 16 dX7_shuts_5 (by decide) (fun c5 => ?_) (fun c5 => ?_)
  · skip
    refine EV_iconst (v := 0) dX7_shuts_16 (by decide) ?_
    exact ES_iret dX7_shuts_17 rfl rfl (by simp only [shutsF, if_neg c5]; try rfl) rfl
  · skip
    refine EV_iload_n dX7_shuts_8 rfl ?_
    refine EV_aload_n dX7_shuts_9 rfl ?_
    refine ES_getf dX7_shuts_10 fkX7_15 hn (by assumption) rfl ?_
    refine EV_icmp_lt 18 dX7_shuts_13 (by decide) (fun c13 => ?_) (fun c13 => ?_)
    · skip
      refine EV_iload_n dX7_shuts_18 rfl ?_
      refine EV_bipush (v := 60) dX7_shuts_19 (by decide) ?_
      refine EV_idiv dX7_shuts_21 (by decide) ?_
      refine EV_bipush (v := 24) dX7_shuts_22 (by decide) ?_
      refine EV_irem dX7_shuts_24 (by decide) ?_
      refine EV_istore dX7_shuts_25 (Nat.le_of_ble_eq_true rfl) (Nat.le_of_ble_eq_true rfl) rfl ?_
      refine EV_aload_n dX7_shuts_27 rfl ?_
      refine ES_getf dX7_shuts_28 fkX7_18 hn (by assumption) rfl ?_
      refine EV_aload_n dX7_shuts_31 rfl ?_
      refine ES_getf dX7_shuts_32 fkX7_21 hn (by assumption) rfl ?_
      refine EV_icmp_ge 62 dX7_shuts_35 (by decide) (fun c35 => ?_) (fun c35 => ?_)
      · skip
        refine EV_iload dX7_shuts_62 rfl ?_
        refine EV_aload_n dX7_shuts_64 rfl ?_
        refine ES_getf dX7_shuts_65 fkX7_18 hn (by assumption) rfl ?_
        refine EV_icmp_ge 80 dX7_shuts_68 (by decide) (fun c68 => ?_) (fun c68 => ?_)
        · skip
          refine EV_iconst (v := 1) dX7_shuts_80 (by decide) ?_
          refine EV_goto 85 dX7_shuts_81 (by decide) ?_
          exact ES_iret dX7_shuts_85 rfl rfl (by simp only [shutsF, if_pos c5, if_pos c13, if_pos c35, if_pos c68]; try rfl) rfl
        · skip
          refine EV_iload dX7_shuts_71 rfl ?_
          refine EV_aload_n dX7_shuts_73 rfl ?_
          refine ES_getf dX7_shuts_74 fkX7_21 hn (by assumption) rfl ?_
          refine EV_icmp_ge 84 dX7_shuts_77 (by decide) (fun c77 => ?_) (fun c77 => ?_)
          · skip
            refine EV_iconst (v := 0) dX7_shuts_84 (by decide) ?_
            exact ES_iret dX7_shuts_85 rfl rfl (by simp only [shutsF, if_pos c5, if_pos c13, if_pos c35, if_neg c68, if_pos c77]; try rfl) rfl
          · skip
            refine EV_iconst (v := 1) dX7_shuts_80 (by decide) ?_
            refine EV_goto 85 dX7_shuts_81 (by decide) ?_
            exact ES_iret dX7_shuts_85 rfl rfl (by simp only [shutsF, if_pos c5, if_pos c13, if_pos c35, if_neg c68, if_neg c77]; try rfl) rfl
      · skip
        refine EV_iload dX7_shuts_38 rfl ?_
        refine EV_aload_n dX7_shuts_40 rfl ?_
        refine ES_getf dX7_shuts_41 fkX7_18 hn (by assumption) rfl ?_
        refine EV_icmp_lt 60 dX7_shuts_44 (by decide) (fun c44 => ?_) (fun c44 => ?_)
        · skip
          refine EV_iconst (v := 0) dX7_shuts_60 (by decide) ?_
          exact ES_iret dX7_shuts_61 rfl rfl (by simp only [shutsF, if_pos c5, if_pos c13, if_neg c35, if_pos c44]; try rfl) rfl
        · skip
          refine EV_iload dX7_shuts_47 rfl ?_
          refine EV_aload_n dX7_shuts_49 rfl ?_
          refine ES_getf dX7_shuts_50 fkX7_21 hn (by assumption) rfl ?_
          refine EV_icmp_ge 60 dX7_shuts_53 (by decide) (fun c53 => ?_) (fun c53 => ?_)
          · skip
            refine EV_iconst (v := 0) dX7_shuts_60 (by decide) ?_
            exact ES_iret dX7_shuts_61 rfl rfl (by simp only [shutsF, if_pos c5, if_pos c13, if_neg c35, if_neg c44, if_pos c53]; try rfl) rfl
          · skip
            refine EV_iconst (v := 1) dX7_shuts_56 (by decide) ?_
            refine EV_goto 61 dX7_shuts_57 (by decide) ?_
            exact ES_iret dX7_shuts_61 rfl rfl (by simp only [shutsF, if_pos c5, if_pos c13, if_neg c35, if_neg c44, if_neg c53]; try rfl) rfl
    · skip
      refine EV_iconst (v := 0) dX7_shuts_16 (by decide) ?_
      exact ES_iret dX7_shuts_17 rfl rfl (by simp only [shutsF, if_pos c5, if_neg c13]; try rfl) rfl
def firstF (σ : Nat → Nat → Int32) (r : Nat) : Int32 := if σ r 1 ≤ 0 then -1 else σ (r + 1) 0
def lastF (σ : Nat → Nat → Int32) (r : Nat) : Int32 := if σ r 1 ≤ 0 then -1 else if 10 < σ r 1 then -1 else σ (r + 1) (σ r 1 - 1).toNatClampNeg
def atF (σ : Nat → Nat → Int32) (r : Nat) (i : Int32) : Int32 := if i < 0 then -1 else if σ r 1 ≤ i then -1 else if 10 ≤ i then -1 else σ (r + 1) i.toNatClampNeg
def endF (σ : Nat → Nat → Int32) (r : Nat) (s : Int32) : Int32 := s + 2 * (σ r 1 - 1)
theorem vp_in_z {i : Int32} {n : Nat} (h0 : ¬ i < 0) (h1 : i < nI n) (hn : n < 2 ^ 31) : vp_in i n := by
  obtain ⟨j, hj, rfl⟩ := nI_of h0
  exact vp_in_nI ((nI_ltI hj hn).mp h1) hn
set_option maxHeartbeats 1000000 in
theorem sp_first (z : qZ) (k : Nat) {σ : Nat → Nat → Int32} {r : Nat} (hr : isO 4 r) (ha : isA 0 10 (r + 1)) : SP z k mX4_first [.ref r] σ (some (.int (firstF σ r))) σ := by
  refine SP_of 0 (by decide) (Nat.le_of_ble_eq_true rfl) fun X n hn => ?_
  refine EV_aload_n dX4_first_0 rfl ?_
  refine ES_getf dX4_first_1 fkX4_15 hn (by assumption) rfl ?_
  refine EV_if_le 16 dX4_first_4 (by decide) (fun c4 => ?_) (fun c4 => ?_)
  · skip
    refine EV_iconst (v := (-1)) dX4_first_16 (by decide) ?_
    exact ES_iret dX4_first_17 rfl rfl (by simp only [firstF, if_pos c4]; try rfl) rfl
  · skip
    refine EV_aload_n dX4_first_7 rfl ?_
    refine ES_getf dX4_first_8 fkX4_9 hn (by assumption) rfl ?_
    refine EV_iconst (v := 0) dX4_first_11 (by decide) ?_
    refine ES_iald dX4_first_12 hn ha (vp_in_nI (n := 0) (by omega) (by omega)) ?_
    refine EV_goto 17 dX4_first_13 (by decide) ?_
    exact ES_iret dX4_first_17 rfl rfl (by simp only [firstF, if_neg c4]; try rfl) rfl
set_option maxHeartbeats 1000000 in
theorem sp_last (z : qZ) (k : Nat) {σ : Nat → Nat → Int32} {r : Nat} (hr : isO 4 r) (ha : isA 0 10 (r + 1)) : SP z k mX4_last [.ref r] σ (some (.int (lastF σ r))) σ := by
  refine SP_of 0 (by decide) (Nat.le_of_ble_eq_true rfl) fun X n hn => ?_
  refine EV_aload_n dX4_last_0 rfl ?_
  refine ES_getf dX4_last_1 fkX4_15 hn (by assumption) rfl ?_
  refine EV_if_le 30 dX4_last_4 (by decide) (fun c4 => ?_) (fun c4 => ?_)
  · skip
    refine EV_iconst (v := (-1)) dX4_last_30 (by decide) ?_
    exact ES_iret dX4_last_31 rfl rfl (by simp only [lastF, if_pos c4]; try rfl) rfl
  · skip
    refine EV_aload_n dX4_last_7 rfl ?_
    refine ES_getf dX4_last_8 fkX4_15 hn (by assumption) rfl ?_
    refine EV_bipush (v := 10) dX4_last_11 (by decide) ?_
    refine EV_icmp_gt 30 dX4_last_13 (by decide) (fun c13 => ?_) (fun c13 => ?_)
    · skip
      refine EV_iconst (v := (-1)) dX4_last_30 (by decide) ?_
      exact ES_iret dX4_last_31 rfl rfl (by simp only [lastF, if_neg c4, if_pos c13]; try rfl) rfl
    · skip
      refine EV_aload_n dX4_last_16 rfl ?_
      refine ES_getf dX4_last_17 fkX4_9 hn (by assumption) rfl ?_
      refine EV_aload_n dX4_last_20 rfl ?_
      refine ES_getf dX4_last_21 fkX4_15 hn (by assumption) rfl ?_
      refine EV_iconst (v := 1) dX4_last_24 (by decide) ?_
      refine EV_isub dX4_last_25 ?_
      have hin : vp_in (σ r 1 - 1) 10 := by
        obtain ⟨j, hj, e⟩ := nI_of (x := σ r 1) (fun h => by have := Int32.lt_iff_toInt_lt.mp h; have := mt Int32.le_iff_toInt_le.mpr c4; simp at *; omega)
        rw [e] at c4 c13 ⊢
        have h1 : 0 < j := Nat.pos_of_ne_zero (fun h => c4 (by rw [h]; decide))
        have h2 : j ≤ 10 := by
          rcases Nat.lt_or_ge 10 j with h | h
          · exact absurd (nI_lt (a := 10) h (by omega)) c13
          · exact h
        obtain ⟨j, rfl⟩ : ∃ t, j = t + 1 := ⟨j - 1, by omega⟩
        rw [nI_pred]
        exact vp_in_nI (by omega) (by omega)
      refine ES_iald dX4_last_26 hn ha hin ?_
      refine EV_goto 31 dX4_last_27 (by decide) ?_
      exact ES_iret dX4_last_31 rfl rfl (by simp only [lastF, if_neg c4, if_neg c13]; try rfl) rfl
set_option maxHeartbeats 1000000 in
theorem sp_at (z : qZ) (k : Nat) {σ : Nat → Nat → Int32} {r : Nat} (hr : isO 4 r) (ha : isA 0 10 (r + 1)) (i : Int32) : SP z k mX4_at [.ref r, .int i] σ (some (.int (atF σ r i))) σ := by
  refine SP_of 0 (by decide) (Nat.le_of_ble_eq_true rfl) fun X n hn => ?_
  refine EV_iload_n dX4_at_0 rfl ?_
  refine EV_if_lt 27 dX4_at_1 (by decide) (fun c1 => ?_) (fun c1 => ?_)
  · skip
    refine EV_iconst (v := (-1)) dX4_at_27 (by decide) ?_
    exact ES_iret dX4_at_28 rfl rfl (by simp only [atF, if_pos c1]; try rfl) rfl
  · skip
    refine EV_iload_n dX4_at_4 rfl ?_
    refine EV_aload_n dX4_at_5 rfl ?_
    refine ES_getf dX4_at_6 fkX4_15 hn (by assumption) rfl ?_
    refine EV_icmp_ge 27 dX4_at_9 (by decide) (fun c9 => ?_) (fun c9 => ?_)
    · skip
      refine EV_iconst (v := (-1)) dX4_at_27 (by decide) ?_
      exact ES_iret dX4_at_28 rfl rfl (by simp only [atF, if_neg c1, if_pos c9]; try rfl) rfl
    · skip
      refine EV_iload_n dX4_at_12 rfl ?_
      refine EV_bipush (v := 10) dX4_at_13 (by decide) ?_
      refine EV_icmp_ge 27 dX4_at_15 (by decide) (fun c15 => ?_) (fun c15 => ?_)
      · skip
        refine EV_iconst (v := (-1)) dX4_at_27 (by decide) ?_
        exact ES_iret dX4_at_28 rfl rfl (by simp only [atF, if_neg c1, if_neg c9, if_pos c15]; try rfl) rfl
      · skip
        refine EV_aload_n dX4_at_18 rfl ?_
        refine ES_getf dX4_at_19 fkX4_9 hn (by assumption) rfl ?_
        refine EV_iload_n dX4_at_22 rfl ?_
        refine ES_iald dX4_at_23 hn ha (vp_in_z c1 (Int32.not_le.mp c15) (by omega)) ?_
        refine EV_goto 28 dX4_at_24 (by decide) ?_
        exact ES_iret dX4_at_28 rfl rfl (by simp only [atF, if_neg c1, if_neg c9, if_neg c15]; try rfl) rfl
theorem sp_endFrom (z : qZ) (k : Nat) {σ : Nat → Nat → Int32} {r : Nat} (hr : isO 4 r) (s : Int32) : SP z k mX4_endFrom [.ref r, .int s] σ (some (.int (endF σ r s))) σ := by
  refine SP_of 0 (by decide) (Nat.le_of_ble_eq_true rfl) fun X n hn => ?_
  refine EV_iload_n dX4_endFrom_0 rfl ?_
  refine EV_iconst (v := 2) dX4_endFrom_1 (by decide) ?_
  refine EV_aload_n dX4_endFrom_2 rfl ?_
  refine ES_getf dX4_endFrom_3 fkX4_15 hn (by assumption) rfl ?_
  refine EV_iconst (v := 1) dX4_endFrom_6 (by decide) ?_
  refine EV_isub dX4_endFrom_7 ?_
  refine EV_imul dX4_endFrom_8 ?_
  refine EV_iadd dX4_endFrom_9 ?_
  exact ES_iret dX4_endFrom_10 rfl rfl rfl rfl
def isShutF (σ : Nat → Nat → Int32) (zc : Nat) (a r m : Int32) : Bool := (List.range zc).any (fun i => shutsF (σ (8 + i)) a r m)
set_option maxHeartbeats 1000000 in
theorem lp_isShut (z : qZ) (k : Nat) {σ : Nat → Nat → Int32} {zc : Nat} (hz : σ 2 6 = nI zc) (h6 : zc ≤ 6) (a r m : Int32) {X : qM} {n : Nat} (hn : 112 ≤ n) : ∀ (j i : Nat), i + j = zc → (∀ t, t < i → shutsF (σ (8 + t)) a r m = false) → EV z (k + 1) mX2_isShut 3 [.ref 2, .int a, .int r, .int m, .int (nI i)] [] (mm σ X) n 0 0 (qRes (some (.int (bI (isShutF σ zc a r m)))) (mm σ X) n) := by
  intro j
  induction j with
  | zero =>
    intro i hi hf
    refine EV_iload dX2_isShut_3 rfl ?_
    refine EV_aload_n dX2_isShut_5 rfl ?_
    refine ES_getf dX2_isShut_6 fkX2_42 hn o_ground rfl ?_
    refine EV_icmp_ge 36 dX2_isShut_9 (by decide) (fun c9 => ?_) (fun c9 => ?_)
    · skip
      refine EV_iconst (v := 0) dX2_isShut_36 (by decide) ?_
      exact ES_iret dX2_isShut_37 rfl rfl (by rw [isShutF, any_f (fun t ht => hf t (by omega))]; rfl) rfl
    · skip
      exact absurd (by rw [hz]; exact nI_le (by omega) (by omega)) c9
  | succ j ih =>
    intro i hi hf
    refine EV_iload dX2_isShut_3 rfl ?_
    refine EV_aload_n dX2_isShut_5 rfl ?_
    refine ES_getf dX2_isShut_6 fkX2_42 hn o_ground rfl ?_
    refine EV_icmp_ge 36 dX2_isShut_9 (by decide) (fun c9 => ?_) (fun c9 => ?_)
    · skip
      exact absurd c9 (by rw [hz]; exact nI_ge (by omega) (by omega))
    · skip
      refine EV_aload_n dX2_isShut_12 rfl ?_
      refine ES_getf dX2_isShut_13 fkX2_27 hn o_ground rfl ?_
      refine EV_iload dX2_isShut_16 rfl ?_
      refine ES_aaldZ dX2_isShut_18 hn (by omega) ?_
      refine EV_iload_n dX2_isShut_19 rfl ?_
      refine EV_iload_n dX2_isShut_20 rfl ?_
      refine EV_iload_n dX2_isShut_21 rfl ?_
      have hzi := o_zone (i := i) (by omega)
      refine ES_callV dX2_isShut_22 mkX2_57 mfX7_shuts mvX7_shuts hn (by assumption) rfl (sp_shuts z k hzi _ _ _) rfl rfl (Nat.le_of_ble_eq_true rfl) ?_
      refine EV_if_eq 30 dX2_isShut_25 (by decide) (fun c25 => ?_) (fun c25 => ?_)
      · skip
        refine EV_iinc dX2_isShut_30 rfl (Nat.le_of_ble_eq_true rfl) rfl ?_
        refine EV_goto 3 dX2_isShut_33 (by decide) ?_
        rw [show nI i + Int32.ofInt 1 = nI (i + 1) from (nI_succ i).symm]
        exact ih (i + 1) (by omega) (fun t ht => by
          rcases Nat.lt_or_ge t i with h | h
          · exact hf t h
          · rw [show t = i by omega]; exact bI_eq0.mp c25)
      · skip
        refine EV_iconst (v := 1) dX2_isShut_28 (by decide) ?_
        exact ES_iret dX2_isShut_29 rfl rfl (by rw [isShutF, any_t (i := i) (by omega) (by cases h : shutsF (σ (8 + i)) a r m <;> simp_all [bI])]; rfl) rfl
theorem sp_isShut (z : qZ) (k : Nat) {σ : Nat → Nat → Int32} {zc : Nat} (hz : σ 2 6 = nI zc) (h6 : zc ≤ 6) (a r m : Int32) : SP z (k + 1) mX2_isShut [.ref 2, .int a, .int r, .int m] σ (some (.int (bI (isShutF σ zc a r m)))) σ := by
  refine SP_of 1 (by decide) (Nat.le_of_ble_eq_true rfl) fun X n hn => ?_
  refine EV_iconst (v := 0) dX2_isShut_0 (by decide) ?_
  refine EV_istore dX2_isShut_1 (Nat.le_of_ble_eq_true rfl) (Nat.le_of_ble_eq_true rfl) rfl ?_
  exact lp_isShut z k hz h6 a r m hn zc 0 (by omega) (fun t ht => absurd ht (by omega))
