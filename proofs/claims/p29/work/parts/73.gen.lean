/-! ===== a flight is asked for: the law's walk ===== -/
theorem stp_c {now t : Nat} (h1 : t < 25) (h2 : now < 25) : (nI now / 5 = nI t / 5 ↔ now / 5 = t / 5) ∧ (nI t ≤ nI now ↔ t ≤ now) := by
  rw [row_rs h1, row_rs h2]
  exact ⟨nI_eq (by omega) (by omega), nI_leI (by omega) (by omega)⟩
theorem st1 {now t : Nat} (h1 : t < 25) (h2 : now < 25) (c1 : ¬ nI now / 5 = nI t / 5) (c2 : ¬ nI t ≤ nI now) : nI now + 5 = nI (stp t now) := by
  rw [(stp_c h1 h2).1] at c1
  rw [(stp_c h1 h2).2] at c2
  unfold stp
  rw [if_pos c1, if_pos (by omega)]
  exact nI_add now 5
theorem st2 {now t : Nat} (h1 : t < 25) (h2 : now < 25) (c1 : ¬ nI now / 5 = nI t / 5) (c2 : nI t ≤ nI now) : nI now + -5 = nI (stp t now) := by
  rw [(stp_c h1 h2).1] at c1
  rw [(stp_c h1 h2).2] at c2
  unfold stp
  rw [if_pos c1, if_neg (by omega), ← Int32.sub_eq_add_neg]
  exact nI_sub (b := 5) (by omega)
theorem st3 {now t : Nat} (h1 : t < 25) (h2 : now < 25) (c1 : nI now / 5 = nI t / 5) (c2 : ¬ nI t ≤ nI now) : nI now + 1 = nI (stp t now) := by
  rw [(stp_c h1 h2).1] at c1
  rw [(stp_c h1 h2).2] at c2
  unfold stp
  rw [if_neg (fun e => e c1), if_pos (by omega)]
  exact nI_1 now
theorem st4 {now t : Nat} (h1 : t < 25) (h2 : now < 25) (hne : now ≠ t) (c1 : nI now / 5 = nI t / 5) (c2 : nI t ≤ nI now) : nI now + -1 = nI (stp t now) := by
  rw [(stp_c h1 h2).1] at c1
  rw [(stp_c h1 h2).2] at c2
  unfold stp
  rw [if_neg (fun e => e c1), if_neg (by omega), ← Int32.sub_eq_add_neg]
  exact nI_sub (b := 1) (by omega)
/-- so far on the way -/
abbrev PI (σ : qσ) (a m now : Nat) (dr : Nat → Nat) : Prop := DR σ m dr ∧ now < 25 ∧ (∀ j, j < m → dr j < 25) ∧ (∀ j, j + 1 < m → farN (dr j) (dr (j + 1)) = 1) ∧ (m = 0 → now = a) ∧ (0 < m → dr 0 = a ∧ farN (dr (m - 1)) now = 1)
theorem PI.next {σ : qσ} {a m now : Nat} {dr : Nat → Nat} (h : PI σ a m now dr) (hm : m < 10) : DR (draftF σ now m) (m + 1) (fun k => if k = m then now else dr k) ∧ (∀ j, j < m + 1 → (if j = m then now else dr j) < 25) ∧ (∀ j, j + 1 < m + 1 → farN (if j = m then now else dr j) (if j + 1 = m then now else dr (j + 1)) = 1) ∧ (if 0 = m then now else dr 0) = a := by
  obtain ⟨h1, h2, h3, h4, h5, h6⟩ := h
  refine ⟨h1.draft hm now, fun j hj => ?_, fun j hj => ?_, ?_⟩
  · by_cases e : j = m
    · rw [if_pos e]; exact h2
    · rw [if_neg e]; exact h3 j (by omega)
  · rw [if_neg (by omega)]
    by_cases e : j + 1 = m
    · rw [if_pos e]
      have := (h6 (by omega)).2
      rw [show m - 1 = j by omega] at this
      exact this
    · rw [if_neg e]; exact h4 j (by omega)
  · by_cases e : 0 = m
    · rw [if_pos e]; exact h5 e.symm
    · rw [if_neg e]; exact (h6 (by omega)).1
/-- a call of the law's: it says yes, and the state is as the law must find it -/
def qL (zc nw : Nat) (l : Bool) (X : qM) (n : Nat) : qQ := fun v M' n' => v = some (.int 1) ∧ (∃ τ fc dc A, M' = mm τ X ∧ LW τ fc zc nw dc A l) ∧ n' = n
abbrev wayT (dc : Nat) (dr : Nat → Nat) (a t : Nat) : Prop := (2 ≤ dc ∧ dc ≤ 10) ∧ (∀ j, j < dc → dr j < 25) ∧ (∀ j, j + 1 < dc → farN (dr j) (dr (j + 1)) = 1) ∧ dr 0 = a ∧ dr (dc - 1) = t
section Asked
variable {z : qZ} {k : Nat} {fc zc nw : Nat} {A : aS} {l : Bool} {X : qM} {n : Nat} {Q : qQ} {c a t : Nat} {x y : Int32}
set_option maxHeartbeats 8000000 in
theorem lp_path (hn : 112 ≤ n) (ht : t < 25) (hat : a ≠ t) (w9 w10 w11 w12 w13 : Value) : ∀ (j m now : Nat) (σ : qσ) (dr : Nat → Nat), farN now t = j → m + j ≤ 8 → PI σ a m now dr → LW σ fc zc nw m A l →
    (∀ (σ' : qσ) (dc : Nat) (dr' : Nat → Nat), LW σ' fc zc nw dc A l → DR σ' dc dr' → wayT dc dr' a t → EV z (k + 6) mL_isAsked 145 [.ref 1, .ref 113, .int (nI c), .int x, .int y, .int (nI a), .int (nI t), .int (nI dc), .int (nI t), w9, w10, w11, w12, w13] [] (mm σ' X) n 0 0 Q) →
    EV z (k + 6) mL_isAsked 72 [.ref 1, .ref 113, .int (nI c), .int x, .int y, .int (nI a), .int (nI t), .int (nI m), .int (nI now), w9, w10, w11, w12, w13] [] (mm σ X) n 0 0 Q := by
  intro j
  induction j with
  | zero =>
    intro m now σ dr hj hm hP hL kk
    have hO := o_air
    have hnt : now = t := (far0 hP.2.1 ht).mp hj
    subst hnt
    have hm0 : m ≠ 0 := fun e => hat (hP.2.2.2.2.1 e).symm
    obtain ⟨n1, n2, n3, n4⟩ := hP.next (by omega)
    refine EV_aload_n dL_isAsked_72 rfl ?_
    refine EV_iload dL_isAsked_73 rfl ?_
    refine ES_callV dL_isAsked_75 mkL_87 mfX8_draft mvX8_draft hn o_air rfl (sp_draft (k := k + 3) hP.2.1 hL.1.2.2.2.2.1 (by omega)) rfl rfl (Nat.le_of_ble_eq_true rfl) ?_
    refine EV_iinc dL_isAsked_78 rfl (Nat.le_of_ble_eq_true rfl) rfl ?_
    refine EV_iload dL_isAsked_81 rfl ?_
    refine EV_icmp_eq 88 dL_isAsked_83 (by decide) (fun c83 => ?_) (fun c83 => ?_)
    · skip
      refine EV_iload dL_isAsked_88 rfl ?_
      refine EV_iload dL_isAsked_90 rfl ?_
      refine EV_icmp_ne 98 dL_isAsked_92 (by decide) (fun c92 => ?_) (fun c92 => ?_)
      · skip
        exact absurd rfl c92
      · skip
        refine EV_goto 145 dL_isAsked_95 (by decide) ?_
        rw [show nI m + Int32.ofInt 1 = nI (m + 1) from (nI_succ m).symm]
        refine kk _ (m + 1) _ (hL.draft (by omega) now) n1 ⟨⟨by omega, by omega⟩, n2, n3, n4, ?_⟩
        show (if m + 1 - 1 = m then now else dr (m + 1 - 1)) = now
        rw [if_pos (by omega)]
    · skip
      exact absurd rfl c83
  | succ j ih =>
    intro m now σ dr hj hm hP hL kk
    have hO := o_air
    have hne : now ≠ t := fun e => by rw [(far0 hP.2.1 ht).mpr e] at hj; omega
    obtain ⟨n1, n2, n3, n4⟩ := hP.next (by omega)
    obtain ⟨s1, s2, s3⟩ := stp_ok ht hP.2.1 hne
    have k139 : ∀ d : Int32, nI now + d = nI (stp t now) → EV z (k + 6) mL_isAsked 139 [.ref 1, .ref 113, .int (nI c), .int x, .int y, .int (nI a), .int (nI t), .int (nI (m + 1)), .int (nI now), w9, w10, w11, w12, w13] [.int d, .int (nI now)] (mm (draftF σ now m) X) n 0 0 Q := by
      intro d hd
      refine EV_iadd dL_isAsked_139 ?_
      refine EV_istore dL_isAsked_140 (Nat.le_of_ble_eq_true rfl) (Nat.le_of_ble_eq_true rfl) rfl ?_
      refine EV_goto 72 dL_isAsked_142 (by decide) ?_
      rw [hd]
      refine ih (m + 1) (stp t now) _ _ (by omega) (by omega) ⟨n1, s1, n2, n3, fun e => by omega, fun _ => ⟨n4, ?_⟩⟩ (hL.draft (by omega) now) kk
      show farN (if m + 1 - 1 = m then now else dr (m + 1 - 1)) (stp t now) = 1
      rw [if_pos (by omega)]; exact s2
    refine EV_aload_n dL_isAsked_72 rfl ?_
    refine EV_iload dL_isAsked_73 rfl ?_
    refine ES_callV dL_isAsked_75 mkL_87 mfX8_draft mvX8_draft hn o_air rfl (sp_draft (k := k + 3) hP.2.1 hL.1.2.2.2.2.1 (by omega)) rfl rfl (Nat.le_of_ble_eq_true rfl) ?_
    refine EV_iinc dL_isAsked_78 rfl (Nat.le_of_ble_eq_true rfl) rfl ?_
    refine EV_iload dL_isAsked_81 rfl ?_
    refine EV_icmp_eq 88 dL_isAsked_83 (by decide) (fun c83 => ?_) (fun c83 => ?_)
    · skip
      refine EV_iload dL_isAsked_88 rfl ?_
      refine EV_iload dL_isAsked_90 rfl ?_
      refine EV_icmp_ne 98 dL_isAsked_92 (by decide) (fun c92 => ?_) (fun c92 => ?_)
      · skip
        refine EV_iload dL_isAsked_98 rfl ?_
        refine EV_iload dL_isAsked_100 rfl ?_
        refine EV_iconst (v := 5) dL_isAsked_102 (by decide) ?_
        refine EV_idiv dL_isAsked_103 (by decide) ?_
        refine EV_iload dL_isAsked_104 rfl ?_
        refine EV_iconst (v := 5) dL_isAsked_106 (by decide) ?_
        refine EV_idiv dL_isAsked_107 (by decide) ?_
        refine EV_icmp_eq 127 dL_isAsked_108 (by decide) (fun c108 => ?_) (fun c108 => ?_)
        · skip
          refine EV_iload dL_isAsked_127 rfl ?_
          refine EV_iload dL_isAsked_129 rfl ?_
          refine EV_icmp_ge 138 dL_isAsked_131 (by decide) (fun c131 => ?_) (fun c131 => ?_)
          · skip
            refine EV_iconst (v := (-1)) dL_isAsked_138 (by decide) ?_
            rw [show nI m + Int32.ofInt 1 = nI (m + 1) from (nI_succ m).symm]
            refine k139 _ ?_
            have hb := hP.2.1
            exact st4 ht hb hne c108 c131
          · skip
            refine EV_iconst (v := 1) dL_isAsked_134 (by decide) ?_
            refine EV_goto 139 dL_isAsked_135 (by decide) ?_
            rw [show nI m + Int32.ofInt 1 = nI (m + 1) from (nI_succ m).symm]
            refine k139 _ ?_
            have hb := hP.2.1
            exact st3 ht hb c108 c131
        · skip
          refine EV_iload dL_isAsked_111 rfl ?_
          refine EV_iload dL_isAsked_113 rfl ?_
          refine EV_icmp_ge 122 dL_isAsked_115 (by decide) (fun c115 => ?_) (fun c115 => ?_)
          · skip
            refine EV_bipush (v := (-5)) dL_isAsked_122 (by decide) ?_
            refine EV_goto 139 dL_isAsked_124 (by decide) ?_
            rw [show nI m + Int32.ofInt 1 = nI (m + 1) from (nI_succ m).symm]
            refine k139 _ ?_
            have hb := hP.2.1
            exact st2 ht hb c108 c115
          · skip
            refine EV_iconst (v := 5) dL_isAsked_118 (by decide) ?_
            refine EV_goto 139 dL_isAsked_119 (by decide) ?_
            rw [show nI m + Int32.ofInt 1 = nI (m + 1) from (nI_succ m).symm]
            refine k139 _ ?_
            have hb := hP.2.1
            exact st1 ht hb c108 c115
      · skip
        exact absurd ((nI_eq (by have := hP.2.1; omega) (by omega)).mp c92) hne
    · skip
      exact absurd rfl c83
end Asked
