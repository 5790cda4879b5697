/-! ===== a way from pad to pad; the draft ===== -/
def stp (to now : Nat) : Nat := if now / 5 ≠ to / 5 then (if now < to then now + 5 else now - 5) else if now < to then now + 1 else now - 1
theorem stp_ok {to now : Nat} (h1 : to < 25) (h2 : now < 25) (h : now ≠ to) : stp to now < 25 ∧ farN now (stp to now) = 1 ∧ farN (stp to now) to + 1 = farN now to := by
  unfold stp farN
  by_cases e1 : now / 5 ≠ to / 5
  · rw [if_pos e1]
    by_cases e2 : now < to
    · rw [if_pos e2]; omega
    · rw [if_neg e2]; omega
  · rw [if_neg e1]
    by_cases e2 : now < to
    · rw [if_pos e2]; omega
    · rw [if_neg e2]; omega
theorem far0 {a b : Nat} (h1 : a < 25) (h2 : b < 25) : farN a b = 0 ↔ a = b := by
  unfold farN
  constructor
  · intro h; omega
  · intro h; subst h; omega
theorem far_le {a b : Nat} (h1 : a < 25) (h2 : b < 25) : farN a b ≤ 8 := by
  unfold farN; omega
theorem dirL_ne {c nx : Int32} {i : Nat} (hi : i < 4) (h : neighF c i = nx) : dirL c nx 4 0 ≠ -1 := by
  have key : ∀ (j t : Nat), t ≤ i → i < t + j → t + j ≤ 4 → dirL c nx j t ≠ -1 := by
    intro j
    induction j with
    | zero => intro t h1 h2 _; omega
    | succ j ih =>
      intro t h1 h2 h3
      unfold dirL
      by_cases e : neighF c t = nx
      · rw [if_pos e]
        rcases (show t = 0 ∨ t = 1 ∨ t = 2 ∨ t = 3 by omega) with rfl | rfl | rfl | rfl <;> decide
      · rw [if_neg e]
        refine ih (t + 1) ?_ (by omega) (by omega)
        rcases Nat.lt_or_ge t i with h4 | h4
        · omega
        · have : t = i := by omega
          subst this; exact absurd h e
  exact key 4 0 (by omega) (by omega) (by omega)
theorem col_rs {a : Nat} (ha : a < 25) : colF (nI a) = nI (a % 5) := by
  unfold colF
  rw [show (5 : Int32) = nI 5 from rfl, nI_div (by omega) (by omega), nI_mul, nI_sub (by omega)]
  congr 1; omega
theorem row_rs {a : Nat} (ha : a < 25) : nI a / 5 = nI (a / 5) := nI_div (b := 5) (by omega) (by omega)
theorem dir_ok {a b : Nat} (ha : a < 25) (hb : b < 25) (h : farN a b = 1) : dirF (nI a) (nI b) ≠ -1 := by
  unfold dirF
  rw [if_neg (bI_ne0 (isCell_of (vp_in_nI ha (by omega)))), if_neg (bI_ne0 (isCell_of (vp_in_nI hb (by omega))))]
  unfold farN at h
  rcases (show (b + 5 = a) ∨ (b = a + 1 ∧ a % 5 < 4) ∨ (b = a + 5 ∧ a / 5 < 4) ∨ (b + 1 = a ∧ 0 < a % 5) by omega) with e | ⟨e, e2⟩ | ⟨e, e2⟩ | ⟨e, e2⟩
  · refine dirL_ne (i := 0) (by omega) ?_
    show (if nI a / 5 ≤ 0 then (-1 : Int32) else nI a - 5) = nI b
    rw [row_rs ha, if_neg (nI_nle (by omega) (by omega)), show nI a - 5 = nI (a - 5) from nI_sub (b := 5) (by omega)]
    congr 1; omega
  · refine dirL_ne (i := 1) (by omega) ?_
    show (if (4 : Int32) ≤ colF (nI a) then (-1 : Int32) else nI a + 1) = nI b
    rw [col_rs ha, if_neg (show ¬ (4 : Int32) ≤ nI (a % 5) from nI_ge (b := 4) (by omega) (by omega)), nI_1]
    congr 1; omega
  · refine dirL_ne (i := 2) (by omega) ?_
    show (if (4 : Int32) ≤ nI a / 5 then (-1 : Int32) else nI a + 5) = nI b
    rw [row_rs ha, if_neg (show ¬ (4 : Int32) ≤ nI (a / 5) from nI_ge (b := 4) (by omega) (by omega)), show nI a + 5 = nI (a + 5) from nI_add a 5]
    congr 1; omega
  · refine dirL_ne (i := 3) (by omega) ?_
    show (if colF (nI a) ≤ 0 then (-1 : Int32) else nI a - 1) = nI b
    rw [col_rs ha, if_neg (nI_nle (by omega) (by omega)), show nI a - 1 = nI (a - 1) from nI_sub (b := 1) (by omega)]
    congr 1; omega
/-- the draft is a row of neighbours from one pad to another -/
abbrev wayN (dc : Nat) (dr : Nat → Nat) : Prop := 2 ≤ dc ∧ dc ≤ 10 ∧ (∀ j, j < dc → dr j < 25) ∧ (∀ j, j + 1 < dc → farN (dr j) (dr (j + 1)) = 1) ∧ isPd (dr 0) ∧ isPd (dr (dc - 1))
abbrev DR (σ : qσ) (dc : Nat) (dr : Nat → Nat) : Prop := σ 106 1 = nI dc ∧ ∀ k, k < dc → σ 107 k = nI (dr k)
section Way
variable {σ τ : qσ} {fc zc nw dc : Nat} {A : aS} {l : Bool} {dr : Nat → Nat}
theorem DR.rf (h : DR σ dc dr) (c st : Nat) : RF (upd (upd (upd (fun _ => 0) 0 (nI c)) 1 (nI st)) 2 0) (σ 106) (σ (106 + 1)) (c, st, 0, dc, dr) := ⟨rfl, rfl, rfl, h.1, h.2⟩
theorem pad_ne {c : Nat} (h : isPd c) : padI c ≠ -1 := by
  rcases h with rfl | rfl | rfl | rfl | rfl <;> decide
theorem hasPad_of (hG : LG σ) {c : Nat} (h : isPd c) : hasPadF σ (nI c) = true := by
  have hc := isPd_lt h
  unfold hasPadF
  rw [if_neg (bI_ne0 (isCell_of (vp_in_nI hc (by omega)))), nI_clamp (by omega), hG.2.1 c hc, if_neg (pad_ne h)]
theorem last_rs {f : Nat → Int32} {a : aF} {ρ : Nat} (h : RF f (σ ρ) (σ (ρ + 1)) a) (hn : 2 ≤ a.ln ∧ a.ln ≤ 10) : lastF σ ρ = nI (a.rt (a.ln - 1)) := by
  unfold lastF
  rw [h.hn, if_neg (nI_nle (by omega) (by omega)), if_neg (show ¬ (10 : Int32) < nI a.ln from nI_nlt (a := 10) (by omega) (by omega)), show nI a.ln - 1 = nI (a.ln - 1) from nI_sub (b := 1) (by omega), nI_clamp (by omega), h.hr _ (by omega)]
theorem isWay_of (hG : LG σ) (h : DR σ dc dr) (w : wayN dc dr) : isWayF σ 106 (cntF σ 106) = true := by
  obtain ⟨w1, w2, w3, w4, w5, w6⟩ := w
  have hr := h.rf 0 0
  have hln : 2 ≤ aF.ln (0, 0, 0, dc, dr) ∧ aF.ln (0, 0, 0, dc, dr) ≤ 10 := ⟨w1, w2⟩
  have e1 : firstF σ 106 = nI (dr 0) := first_rs hr hln
  have e2 : lastF σ 106 = nI (dr (dc - 1)) := last_rs hr hln
  have ea : ∀ k, k < dc → atF σ 106 (nI k) = nI (dr k) := fun k hk => at_rs hr hln hk
  have key : ∀ (j i : Nat), 1 ≤ i → i + j = dc → wayL σ 106 j i = true := by
    intro j
    induction j with
    | zero => intro i _ _; rfl
    | succ j ih =>
      intro i h1 hi
      unfold wayL
      have := w4 (i - 1) (by omega)
      rw [show i - 1 + 1 = i by omega] at this
      rw [show nI i - 1 = nI (i - 1) from nI_sub (b := 1) h1, ea _ (by omega), ea _ (by omega), if_neg (dir_ok (w3 _ (by omega)) (w3 _ (by omega)) this)]
      exact ih (i + 1) (by omega) (by omega)
  unfold isWayF
  rw [h.1, cntF_of h.1 w2, if_neg (show ¬ nI dc < (2 : Int32) from nI_nlt (b := 2) w1 (by omega)), e1, e2, if_neg (bI_ne0 (hasPad_of hG w5)), if_neg (bI_ne0 (hasPad_of hG w6))]
  exact key (dc - 1) 1 (by omega) (by omega)
theorem LW.clear (h : LW σ fc zc nw dc A l) : LW (sset σ 106 1 0) fc zc nw 0 A l := by
  obtain ⟨⟨⟨hs, h1, h2, h3, h4, h5⟩, ⟨h6, h7⟩, h8, h9, h10⟩, hG, hR, hJ, hl⟩ := h
  have e : ∀ k, k ≠ 106 → sset σ 106 1 0 k = σ k := fun k hk => sset_ne _ _ _ hk
  refine ⟨⟨⟨hs, ⟨?_, h1.2⟩, ⟨?_, h2.2⟩, ⟨?_, h3.2⟩, fun i hi => ?_, fun i hi => ?_⟩, ⟨fun i hi => ?_, fun i hi => ?_⟩, ⟨?_, h8.2⟩, ⟨?_, h9.2⟩, ⟨?_, Nat.zero_le _⟩⟩, hG.of (e _ (by omega)) (e _ (by omega)) (e _ (by omega)) (by rw [e 2 (by omega)]), hR.up fun k _ hk => e k (by omega), hJ, hl⟩
  · rw [e 14 (by omega)]; exact h1.1
  · rw [e 14 (by omega)]; exact h2.1
  · rw [e 2 (by omega)]; exact h3.1
  · rw [e _ (by omega)]; exact h4 i hi
  · rw [e _ (by omega)]; exact h5 i hi
  · rw [e _ (by omega)]; exact h6 i hi
  · rw [e _ (by omega)]; exact h7 i hi
  · rw [e 2 (by omega)]; exact h8.1
  · rw [e 14 (by omega)]; exact h9.1
  · rw [sset_at, if_pos ⟨rfl, rfl⟩]; rfl
theorem draft_eq (c dc : Nat) (hd : dc < 10) : draftF σ c dc = sset (sset σ 107 dc (nI c)) 106 1 (nI (dc + 1)) := by
  unfold draftF
  rw [nI_clamp (by omega), nI_1]
theorem LW.draft (h : LW σ fc zc nw dc A l) (hd : dc < 10) (c : Nat) : LW (draftF σ c dc) fc zc nw (dc + 1) A l := by
  rw [draft_eq c dc hd]
  obtain ⟨⟨⟨hs, h1, h2, h3, h4, h5⟩, ⟨h6, h7⟩, h8, h9, h10⟩, hG, hR, hJ, hl⟩ := h
  have e : ∀ k, k < 106 → sset (sset σ 107 dc (nI c)) 106 1 (nI (dc + 1)) k = σ k := fun k hk => by rw [sset_ne _ _ _ (by omega), sset_ne _ _ _ (by omega)]
  refine ⟨⟨⟨hs, ⟨?_, h1.2⟩, ⟨?_, h2.2⟩, ⟨?_, h3.2⟩, fun i hi => ?_, fun i hi => ?_⟩, ⟨fun i hi => ?_, fun i hi => ?_⟩, ⟨?_, h8.2⟩, ⟨?_, h9.2⟩, ⟨?_, hd⟩⟩, hG.of (e _ (by omega)) (e _ (by omega)) (e _ (by omega)) (by rw [e 2 (by omega)]), hR.up fun k _ hk => e k (by omega), hJ, hl⟩
  · rw [e 14 (by omega)]; exact h1.1
  · rw [e 14 (by omega)]; exact h2.1
  · rw [e 2 (by omega)]; exact h3.1
  · rw [e _ (by omega)]; exact h4 i hi
  · rw [e _ (by omega)]; exact h5 i hi
  · rw [e _ (by omega)]; exact h6 i hi
  · rw [e _ (by omega)]; exact h7 i hi
  · rw [e 2 (by omega)]; exact h8.1
  · rw [e 14 (by omega)]; exact h9.1
  · rw [sset_at, if_pos ⟨rfl, rfl⟩]
theorem DR.draft (h : DR σ dc dr) (hd : dc < 10) (c : Nat) : DR (draftF σ c dc) (dc + 1) (fun k => if k = dc then c else dr k) := by
  rw [draft_eq c dc hd]
  refine ⟨by rw [sset_at, if_pos ⟨rfl, rfl⟩], fun k hk => ?_⟩
  rw [sset_ne _ _ _ (by omega), sset_at]
  show _ = nI (if k = dc then c else dr k)
  by_cases e : k = dc
  · rw [if_pos ⟨rfl, e⟩, if_pos e]
  · rw [if_neg (fun x => e x.2), if_neg e]; exact h.2 k (by omega)
theorem DR.vis (h : DR σ dc dr) (hv : Vis σ τ) : DR τ dc dr := ⟨by rw [hv.d]; exact h.1, fun k hk => by rw [hv.d1]; exact h.2 k hk⟩
end Way
