/-! ===== the constructors of the ground, a sky, the judge, the search, the air ===== -/
theorem rtM_at (M : qM) (n r : Nat) (h : r ≤ n) : rtM M n r r = .inr (4, [.ref (n + 1), .int 0]) ∧ rtM M n r (n + 1) = .inl (0, 10, .inl (fun _ => 0)) ∧ ∀ k, k ≠ r → k ≠ n + 1 → rtM M n r k = M k := by
  refine ⟨qset_at _ _ _, ?_, fun k h1 h2 => ?_⟩
  · unfold rtM; rw [qset_ne _ _ (by omega), qset_at]
  · unfold rtM; rw [qset_ne _ _ h1, qset_ne _ _ h2]
theorem flM_at (M : qM) (n r : Nat) (h : r ≤ n) : flM M n r r = .inr (1, [.int 0, .int 0, .int 0, .ref (n + 1)]) ∧ flM M n r (n + 1) = .inr (4, [.ref (n + 2), .int 0]) ∧ flM M n r (n + 2) = .inl (0, 10, .inl (fun _ => 0)) ∧ ∀ k, k ≠ r → k ≠ n + 1 → k ≠ n + 2 → flM M n r k = M k := by
  obtain ⟨h1, h2, h3⟩ := rtM_at (qset M (n + 1) (.inr (4, bl4))) (n + 1) (n + 1) (Nat.le_refl _)
  refine ⟨qset_at _ _ _, ?_, ?_, fun k g1 g2 g3 => ?_⟩
  · unfold flM; rw [qset_ne _ _ (by omega)]; exact h1
  · unfold flM; rw [qset_ne _ _ (by omega)]; exact h2
  · unfold flM; rw [qset_ne _ _ g1, h3 k g2 (by omega), qset_ne _ _ g2]
def rwC (s i : Nat) : Nat → Option Nat := fun j => if j < i then some (s + 4 + j) else none
def rwF (s i : Nat) : Nat → Option Nat := fun j => if j < i then some (s + 10 + 3 * j) else none
def rwZ (i : Nat) : Nat → Option Nat := fun j => if j < i then some (8 + j) else none
theorem rw_up {g : Nat → Nat} {i v : Nat} (hv : v = g i) : va_up (fun j => if j < i then some (g j) else none) i (some v) = fun j => if j < i + 1 then some (g j) else none := by
  funext j
  unfold va_up
  by_cases h : j = i
  · subst h; simp [hv]
  · by_cases h2 : j < i
    · rw [if_neg h]
      show (if j < i then some (g j) else none) = (if j < i + 1 then some (g j) else none)
      rw [if_pos h2, if_pos (by omega)]
    · rw [if_neg h]
      show (if j < i then some (g j) else none) = (if j < i + 1 then some (g j) else none)
      rw [if_neg h2, if_neg (by omega)]
/-- a sky's cells at first -/
def sk0 (d : Nat) : Nat → Int32 := if 4 ≤ d ∧ d < 10 then crI else fun _ => 0
def SkA (M0 : qM) (s i : Nat) (M : qM) : Prop := M s = .inr (6, oF 6 s (fun _ => 0)) ∧ M (s + 1) = .inl (3, 6, .inr (.inr (.inr (.inr (rwC s i))))) ∧ M (s + 2) = .inl (4, 12, .inr (.inr (.inr (.inr (fun _ => none))))) ∧ M (s + 3) = .inl (0, 25, .inl (fun _ => 0)) ∧ (∀ j, j < i → M (s + 4 + j) = .inr (0, oF 0 (s + 4 + j) crI)) ∧ ∀ k, k < s → M k = M0 k
def SkB (M0 : qM) (s i : Nat) (M : qM) : Prop := M s = .inr (6, oF 6 s (fun _ => 0)) ∧ M (s + 1) = .inl (3, 6, .inr (.inr (.inr (.inr (rwC s 6))))) ∧ M (s + 2) = .inl (4, 12, .inr (.inr (.inr (.inr (rwF s i))))) ∧ M (s + 3) = .inl (0, 25, .inl (fun _ => 0)) ∧ (∀ j, j < 6 → M (s + 4 + j) = .inr (0, oF 0 (s + 4 + j) crI)) ∧
  (∀ j, j < i → M (s + 10 + 3 * j) = .inr (1, oF 1 (s + 10 + 3 * j) (fun _ => 0)) ∧ M (s + 10 + 3 * j + 1) = .inr (4, oF 4 (s + 10 + 3 * j + 1) (fun _ => 0)) ∧ M (s + 10 + 3 * j + 2) = .inl (0, 10, .inl (fun _ => 0))) ∧ ∀ k, k < s → M k = M0 k
def skPost (M0 : qM) (s : Nat) : qQ := fun v M' n' => v = none ∧ n' = s + 45 ∧ (∀ k, k < s → M' k = M0 k) ∧ ∀ d, d < 46 → M' (s + d) = eSky s d (sk0 d)
theorem sk_end {M0 M : qM} {s : Nat} (h : SkB M0 s 12 M) : ∀ d, d < 46 → M (s + d) = eSky s d (sk0 d) := by
  obtain ⟨h0, h1, h2, h3, h4, h5, -⟩ := h
  intro d hd
  unfold eSky sk0
  by_cases d0 : d = 0
  · subst d0; exact h0
  by_cases d1 : d = 1
  · subst d1; exact h1
  by_cases d2 : d = 2
  · subst d2; exact h2
  by_cases d3 : d = 3
  · subst d3; exact h3
  rw [if_neg d0, if_neg d1, if_neg d2, if_neg d3]
  by_cases d10 : d < 10
  · rw [if_pos d10, if_pos ⟨by omega, d10⟩]
    have := h4 (d - 4) (by omega)
    rw [show s + 4 + (d - 4) = s + d by omega] at this
    exact this
  · have cz : (if 4 ≤ d ∧ d < 10 then crI else fun _ => 0) = fun _ => (0 : Int32) := if_neg (fun e => d10 e.2)
    rw [if_neg d10, cz]
    obtain ⟨a, b, c⟩ := h5 ((d - 10) / 3) (by omega)
    by_cases m0 : (d - 10) % 3 = 0
    · rw [if_pos m0]
      rw [show s + 10 + 3 * ((d - 10) / 3) = s + d by omega] at a
      exact a
    · rw [if_neg m0]
      by_cases m1 : (d - 10) % 3 = 1
      · rw [if_pos m1]
        rw [show s + 10 + 3 * ((d - 10) / 3) + 1 = s + d by omega] at b
        exact b
      · rw [if_neg m1]
        rw [show s + 10 + 3 * ((d - 10) / 3) + 2 = s + d by omega] at c
        exact c
section Ctor2
variable {z : qZ} {k : Nat}
set_option maxHeartbeats 8000000 in
theorem lp_skF {M0 : qM} {s : Nat} (hs : 0 < s) : ∀ (j i : Nat) (M : qM), i + j = 12 → SkB M0 s i M → EV z (k + 3) mX6_init 64 [.ref s, .ref 2, .int (nI i)] [] M (s + 9 + 3 * i) (3 * j) (16 * j) (skPost M0 s) := by
  intro j
  induction j with
  | zero =>
    intro i M hi hB
    refine EV_iload_n dX6_init_64 rfl ?_
    refine EV_bipush (v := 12) dX6_init_65 (by decide) ?_
    refine EV_icmp_ge 89 dX6_init_67 (by decide) (fun c67 => ?_) (fun c67 => ?_)
    · skip
      refine EV_vret dX6_init_89 rfl ⟨rfl, by omega, hB.2.2.2.2.2.2, ?_⟩
      obtain rfl : i = 12 := by omega
      exact sk_end hB
    · skip
      exact absurd (nI_le (a := 12) (b := i) (by omega) (by omega)) c67
  | succ j ih =>
    intro i M hi hB
    obtain ⟨h0, h1, h2, h3, h4, h5, h6⟩ := hB
    refine EV_iload_n dX6_init_64 rfl ?_
    refine EV_bipush (v := 12) dX6_init_65 (by decide) ?_
    refine EV_icmp_ge 89 dX6_init_67 (by decide) (fun c67 => ?_) (fun c67 => ?_)
    · skip
      exact absurd c67 (nI_ge (a := i) (b := 12) (by omega) (by omega))
    · skip
      refine EV_aload_n dX6_init_70 rfl ?_
      refine EV_getf dX6_init_71 fkX6_19 ⟨hs, by omega⟩ h0 rfl ?_
      refine EV_iload_n dX6_init_74 rfl ?_
      refine EV_new (ci := 1) (fs := bl1) (bc := 3 * j + 2) (bs := 16 * j + 12) dX6_init_75 rfl qcok1 ckX6_17 ciX1 cnX1 nf1 ?_
      refine EV_dup dX6_init_78 rfl ?_
      refine EV_callI (mc := 2) (ms := 12) (bc := 3 * j) (bs := 16 * j) dX6_init_79 mkX6_32 mfX1_init miX1_init (ct_flI (k := k) ⟨by omega, Nat.le_refl _⟩ (qset_at _ _ _)) rfl rfl (Nat.le_of_ble_eq_true rfl) (fun v M' n' h => ?_)
      obtain ⟨rfl, rfl, rfl⟩ := h
      obtain ⟨g1, g2, g3, g4⟩ := flM_at (qset M (s + 9 + 3 * i + 1) (.inr (1, bl1))) (s + 9 + 3 * i + 1) (s + 9 + 3 * i + 1) (Nat.le_refl _)
      have g5 : ∀ k, k < s + 9 + 3 * i + 1 → flM (qset M (s + 9 + 3 * i + 1) (.inr (1, bl1))) (s + 9 + 3 * i + 1) (s + 9 + 3 * i + 1) k = M k := fun k hk => by rw [g4 k (by omega) (by omega) (by omega), qset_ne _ _ (by omega)]
      generalize flM (qset M (s + 9 + 3 * i + 1) (.inr (1, bl1))) (s + 9 + 3 * i + 1) (s + 9 + 3 * i + 1) = M2 at g1 g2 g3 g4 g5 ⊢
      refine EV_aast dX6_init_82 ⟨by omega, by omega⟩ ⟨by omega, by omega⟩ ((g5 _ (by omega)).trans h2) g1 (show vwCl[1]? = some (RX1, TX1, 4) from rfl) (fun _ => rfl) (vp_in_nI (by omega) (by omega)) ?_
      rw [nI_clamp (by omega)]
      refine EV_iinc dX6_init_83 rfl (Nat.le_of_ble_eq_true rfl) rfl ?_
      refine EV_goto 64 dX6_init_86 (by decide) ?_
      rw [show nI i + Int32.ofInt 1 = nI (i + 1) from (nI_succ i).symm, show s + 9 + 3 * i + 1 + 2 = s + 9 + 3 * (i + 1) by omega]
      refine ih (i + 1) _ (by omega) ⟨?_, ?_, ?_, ?_, fun t ht => ?_, fun t ht => ?_, fun t ht => ?_⟩
      · rw [qset_ne _ _ (by omega), g5 _ (by omega)]; exact h0
      · rw [qset_ne _ _ (by omega), g5 _ (by omega)]; exact h1
      · rw [qset_at]
        have e := rw_up (g := fun j => s + 10 + 3 * j) (i := i) (v := s + 9 + 3 * i + 1) (by omega)
        unfold rwF at e ⊢
        rw [e]
      · rw [qset_ne _ _ (by omega), g5 _ (by omega)]; exact h3
      · rw [qset_ne _ _ (by omega), g5 _ (by omega)]; exact h4 t ht
      · by_cases hti : t = i
        · subst hti
          rw [show s + 9 + 3 * t + 1 = s + 10 + 3 * t by omega] at g1 g2 g3
          refine ⟨?_, ?_, ?_⟩
          · rw [qset_ne _ _ (by omega)]; exact g1
          · rw [qset_ne _ _ (by omega)]; exact g2
          · rw [qset_ne _ _ (by omega)]; exact g3
        · obtain ⟨a, b, c⟩ := h5 t (by omega)
          refine ⟨?_, ?_, ?_⟩
          · rw [qset_ne _ _ (by omega), g5 _ (by omega)]; exact a
          · rw [qset_ne _ _ (by omega), g5 _ (by omega)]; exact b
          · rw [qset_ne _ _ (by omega), g5 _ (by omega)]; exact c
      · rw [qset_ne _ _ (by omega), g5 _ (by omega)]; exact h6 t ht
set_option maxHeartbeats 8000000 in
theorem lp_skC {M0 : qM} {s : Nat} (hs : 0 < s) : ∀ (j i : Nat) (M : qM), i + j = 6 → SkA M0 s i M → EV z (k + 3) mX6_init 37 [.ref s, .ref 2, .int (nI i)] [] M (s + 3 + i) (36 + j) (192 + 12 * j) (skPost M0 s) := by
  intro j
  induction j with
  | zero =>
    intro i M hi hA
    obtain rfl : i = 6 := by omega
    refine EV_iload_n dX6_init_37 rfl ?_
    refine EV_bipush (v := 6) dX6_init_38 (by decide) ?_
    refine EV_icmp_ge 62 dX6_init_40 (by decide) (fun c40 => ?_) (fun c40 => ?_)
    · skip
      refine EV_iconst (v := 0) dX6_init_62 (by decide) ?_
      refine EV_istore_n dX6_init_63 (Nat.le_of_ble_eq_true rfl) (Nat.le_of_ble_eq_true rfl) rfl ?_
      exact lp_skF hs 12 0 M (by omega) ⟨hA.1, hA.2.1, hA.2.2.1.trans (by unfold rwF; simp), hA.2.2.2.1, hA.2.2.2.2.1, fun t ht => absurd ht (by omega), hA.2.2.2.2.2⟩
    · skip
      exact absurd (nI_le (a := 6) (b := 6) (by omega) (by omega)) c40
  | succ j ih =>
    intro i M hi hA
    obtain ⟨h0, h1, h2, h3, h4, h6⟩ := hA
    refine EV_iload_n dX6_init_37 rfl ?_
    refine EV_bipush (v := 6) dX6_init_38 (by decide) ?_
    refine EV_icmp_ge 62 dX6_init_40 (by decide) (fun c40 => ?_) (fun c40 => ?_)
    · skip
      exact absurd c40 (nI_ge (a := i) (b := 6) (by omega) (by omega))
    · skip
      refine EV_aload_n dX6_init_43 rfl ?_
      refine EV_getf dX6_init_44 fkX6_11 ⟨hs, by omega⟩ h0 rfl ?_
      refine EV_iload_n dX6_init_47 rfl ?_
      refine EV_new (ci := 0) (fs := bl0) (bc := 36 + j) (bs := 192 + 12 * j) dX6_init_48 rfl qcok0 ckX6_9 ciX0 cnX0 nf0 ?_
      refine EV_dup dX6_init_51 rfl ?_
      refine EV_callI (mc := 0) (ms := 0) (bc := 36 + j) (bs := 192 + 12 * j) dX6_init_52 mkX6_31 mfX0_init miX0_init (ct_crI (k := k + 1) ⟨by omega, Nat.le_refl _⟩ (qset_at _ _ _)) rfl rfl (Nat.le_of_ble_eq_true rfl) (fun v M' n' h => ?_)
      obtain ⟨rfl, rfl, rfl⟩ := h
      rw [qset_qset]
      refine EV_aast dX6_init_55 ⟨by omega, by omega⟩ ⟨by omega, by omega⟩ ((qset_ne _ _ (by omega)).trans h1) (qset_at _ _ _) (show vwCl[0]? = some (RX0, TX0, 12) from rfl) (fun _ => rfl) (vp_in_nI (by omega) (by omega)) ?_
      rw [nI_clamp (by omega)]
      refine EV_iinc dX6_init_56 rfl (Nat.le_of_ble_eq_true rfl) rfl ?_
      refine EV_goto 37 dX6_init_59 (by decide) ?_
      rw [show nI i + Int32.ofInt 1 = nI (i + 1) from (nI_succ i).symm]
      refine ih (i + 1) _ (by omega) ⟨?_, ?_, ?_, ?_, fun t ht => ?_, fun t ht => ?_⟩
      · rw [qset_ne _ _ (by omega), qset_ne _ _ (by omega)]; exact h0
      · rw [qset_at]
        have e := rw_up (g := fun j => s + 4 + j) (i := i) (v := s + 3 + i + 1) (by omega)
        unfold rwC at e ⊢
        rw [e]
      · rw [qset_ne _ _ (by omega), qset_ne _ _ (by omega)]; exact h2
      · rw [qset_ne _ _ (by omega), qset_ne _ _ (by omega)]; exact h3
      · by_cases hti : t = i
        · subst hti
          rw [qset_ne _ _ (by omega), show s + 4 + t = s + 3 + t + 1 by omega, qset_at]
        · rw [qset_ne _ _ (by omega), qset_ne _ _ (by omega)]; exact h4 t (by omega)
      · rw [qset_ne _ _ (by omega), qset_ne _ _ (by omega)]; exact h6 t ht
set_option maxHeartbeats 8000000 in
theorem ct_skI {M : qM} {s : Nat} (hs : 0 < s) (hM : M s = .inr (6, bl6)) : CT z (k + 3) mX6_init [.ref s, .ref 2] M s 45 307 (skPost M s) := by
  refine CT_of 1 (by decide) (Nat.le_of_ble_eq_true rfl) ?_
  refine EV_aload_n dX6_init_0 rfl ?_
  refine EV_objInit dX6_init_1 lkX6_3 li_obj lc_obj (Nat.le_of_ble_eq_true rfl) ?_
  refine EV_aload_n dX6_init_4 rfl ?_
  refine EV_bipush (v := 6) dX6_init_5 (by decide) ?_
  refine EV_anew (t := 3) (len := 6) (bc := 44) (bs := 301) dX6_init_7 ckX6_9 (qAOv _ aoC) (fun _ => rfl) (by decide) (by decide) (by decide) ?_
  refine EV_putfin dX6_init_10 fkX6_11 rfl fkdX6_11 ⟨hs, by omega⟩ ((qset_ne _ _ (by omega)).trans hM) (Nat.le_of_ble_eq_true rfl) (fun _ => rfl) (fun _ => rfl) ?_
  refine EV_aload_n dX6_init_13 rfl ?_
  refine EV_bipush (v := 12) dX6_init_14 (by decide) ?_
  refine EV_anew (t := 4) (len := 12) (bc := 43) (bs := 289) dX6_init_16 ckX6_17 (qAOv _ aoF) (fun _ => rfl) (by decide) (by decide) (by decide) ?_
  refine EV_putfin dX6_init_19 fkX6_19 rfl fkdX6_19 ⟨hs, by omega⟩ ((qset_ne _ _ (by omega)).trans (qset_at _ _ _)) (Nat.le_of_ble_eq_true rfl) (fun _ => rfl) (fun _ => rfl) ?_
  refine EV_aload_n dX6_init_22 rfl ?_
  refine EV_bipush (v := 25) dX6_init_23 (by decide) ?_
  refine EV_newI (bc := 42) (bs := 264) dX6_init_25 (by decide) (show (25 : Int32).toNatClampNeg = 25 by decide) (by decide) ?_
  refine EV_putfin dX6_init_27 fkX6_23 rfl fkdX6_23 ⟨hs, by omega⟩ ((qset_ne _ _ (by omega)).trans (qset_at _ _ _)) (Nat.le_of_ble_eq_true rfl) (fun _ => rfl) (fun _ => rfl) ?_
  refine EV_aload_n dX6_init_30 rfl ?_
  refine EV_aload_n dX6_init_31 rfl ?_
  refine EV_putfin dX6_init_32 fkX6_27 rfl fkdX6_27 ⟨hs, by omega⟩ (qset_at _ _ _) (Nat.le_of_ble_eq_true rfl) (fun _ => rfl) (fun _ => rfl) ?_
  refine EV_iconst (v := 0) dX6_init_35 (by decide) ?_
  refine EV_istore_n dX6_init_36 (Nat.le_of_ble_eq_true rfl) (Nat.le_of_ble_eq_true rfl) rfl ?_
  refine lp_skC hs 6 0 _ (by omega) ⟨?_, ?_, ?_, ?_, fun t ht => absurd ht (by omega), fun t ht => ?_⟩
  · rw [qset_at]; rfl
  · rw [qset_ne _ _ (by omega), qset_ne _ _ (by omega), qset_ne _ _ (by omega), qset_ne _ _ (by omega), qset_ne _ _ (by omega), qset_ne _ _ (by omega), qset_at]
    unfold rwC; simp
  · rw [qset_ne _ _ (by omega), qset_ne _ _ (by omega), qset_ne _ _ (by omega), qset_ne _ _ (by omega), qset_at]
  · rw [qset_ne _ _ (by omega), qset_ne _ _ (by omega), qset_at]
  · rw [qset_ne _ _ (by omega), qset_ne _ _ (by omega), qset_ne _ _ (by omega), qset_ne _ _ (by omega), qset_ne _ _ (by omega), qset_ne _ _ (by omega), qset_ne _ _ (by omega)]
end Ctor2
