/-! ===== the system's cells as numbers: 1 the air, 2 the ground (3 houses, 4 towers, 5 padAt, 6 padCells, 7 zones, 8..13), 14 the sky (15, 16, 17, craft 18.., flights 24..), 60 the trial, 106 the draft, 108 the judge, 110 the search ===== -/
def qS0 : Type := Nat → Nat → Int32
def oF (ci r : Nat) (f : Nat → Int32) : List Value := match ci with
  | 0 => [.int (f 0), .int (f 1), .int (f 2), .int (f 3), .int (f 4), .int (f 5), .int (f 6), .int (f 7), .int (f 8), .int (f 9), .int (f 10), .int (f 11)]
  | 1 => [.int (f 0), .int (f 1), .int (f 2), .ref (r + 1)]
  | 2 => [.ref 3, .ref 4, .ref 5, .ref 6, .int (f 4), .ref 7, .int (f 6), .int (f 7), .int (f 8)]
  | 3 => [.ref 2, .ref 14, .ref 109]
  | 4 => [.ref (r + 1), .int (f 1)]
  | 5 => [.ref 2, .ref 111, .ref 112]
  | 6 => [.ref 2, .ref (r + 1), .int (f 2), .ref (r + 2), .int (f 4), .ref (r + 3), .int (f 6), .int (f 7), .int (f 8)]
  | 7 => [.int (f 0), .int (f 1), .int (f 2), .int (f 3)]
  | _ => [.ref 2, .ref 14, .ref 60, .ref 106, .ref 108, .ref 110]
def rowZ (j : Nat) : Option Nat := if j < 6 then some (8 + j) else none
def rowC (s j : Nat) : Option Nat := if j < 6 then some (s + 4 + j) else none
def rowF (s j : Nat) : Option Nat := if j < 12 then some (s + 10 + 3 * j) else none
/-- the cells of a sky at s, by their distance from it -/
def eSky (s d : Nat) (f : Nat → Int32) : qE :=
  if d = 0 then .inr (6, oF 6 s f)
  else if d = 1 then .inl (3, 6, .inr (.inr (.inr (.inr (rowC s)))))
  else if d = 2 then .inl (4, 12, .inr (.inr (.inr (.inr (rowF s)))))
  else if d = 3 then .inl (0, 25, .inl f)
  else if d < 10 then .inr (0, oF 0 (s + d) f)
  else if (d - 10) % 3 = 0 then .inr (1, oF 1 (s + d) f)
  else if (d - 10) % 3 = 1 then .inr (4, oF 4 (s + d) f)
  else .inl (0, 10, .inl f)
def eN (k : Nat) (f : Nat → Int32) : qE :=
  if k < 14 then (match k with
    | 2 => .inr (2, oF 2 2 f)
    | 3 => .inl (0, 25, .inl f)
    | 4 => .inl (1, 25, .inl f)
    | 5 => .inl (0, 25, .inl f)
    | 6 => .inl (0, 5, .inl f)
    | 7 => .inl (2, 6, .inr (.inr (.inr (.inr rowZ))))
    | 1 => .inr (8, oF 8 1 f)
    | k => .inr (7, oF 7 k f))
  else if k < 60 then eSky 14 (k - 14) f
  else if k < 106 then eSky 60 (k - 60) f
  else match k with
    | 106 => .inr (4, oF 4 106 f)
    | 107 => .inl (0, 10, .inl f)
    | 108 => .inr (3, oF 3 108 f)
    | 109 => .inl (0, 25, .inl f)
    | 110 => .inr (5, oF 5 110 f)
    | 111 => .inl (1, 25, .inl f)
    | _ => .inl (0, 25, .inl f)
def mm (σ : Nat → Nat → Int32) (X : qM) : qM := fun k => if k ≤ 112 then eN k (σ k) else X k
def srow (σ : Nat → Nat → Int32) (r : Nat) (g : Nat → Int32) : Nat → Nat → Int32 := fun k => if k = r then g else σ k
def sset (σ : Nat → Nat → Int32) (r j : Nat) (v : Int32) : Nat → Nat → Int32 := srow σ r (upd (σ r) j v)
def isO (ci r : Nat) : Prop := (0 < r ∧ r ≤ 112) ∧ ∀ f : Nat → Int32, eN r f = .inr (ci, oF ci r f)
def isA (t len r : Nat) : Prop := (0 < r ∧ r ≤ 112) ∧ ∀ f : Nat → Int32, eN r f = .inl (t, len, .inl f)
def isR (t len r : Nat) (g : Nat → Option Nat) : Prop := (0 < r ∧ r ≤ 112) ∧ ∀ f : Nat → Int32, eN r f = .inl (t, len, .inr (.inr (.inr (.inr g))))
def isSky (s : Nat) : Prop := s = 14 ∨ s = 60
theorem mm_at {σ : Nat → Nat → Int32} {X : qM} {r : Nat} (h : r ≤ 112) : mm σ X r = eN r (σ r) := if_pos h
theorem mm_row {σ : Nat → Nat → Int32} {X : qM} {r : Nat} (h : r ≤ 112) (g : Nat → Int32) : qset (mm σ X) r (eN r g) = mm (srow σ r g) X := by
  funext k
  by_cases hk : k = r
  · subst hk
    simp [qset, mm, srow, h]
  · simp [qset, mm, srow, hk]
theorem srow_srow (σ : Nat → Nat → Int32) (r : Nat) (f g : Nat → Int32) : srow (srow σ r f) r g = srow σ r g := by
  funext k
  by_cases hk : k = r <;> simp [srow, hk]
theorem srow_self (σ : Nat → Nat → Int32) (r : Nat) (f : Nat → Int32) : srow σ r f r = f := by simp [srow]
theorem srow_ne (σ : Nat → Nat → Int32) {r k : Nat} (f : Nat → Int32) (h : k ≠ r) : srow σ r f k = σ k := by simp [srow, h]
theorem srow_id (σ : Nat → Nat → Int32) (r : Nat) : srow σ r (σ r) = σ := by
  funext k
  by_cases hk : k = r <;> simp [srow, hk]
theorem sset_self (σ : Nat → Nat → Int32) (r j : Nat) (v : Int32) : sset σ r j v r = upd (σ r) j v := by simp [sset, srow]
theorem sset_ne (σ : Nat → Nat → Int32) {r k : Nat} (j : Nat) (v : Int32) (h : k ≠ r) : sset σ r j v k = σ k := by simp [sset, srow, h]
/-! which cell is what -/
theorem o_air : isO 8 1 := ⟨by omega, fun _ => rfl⟩
theorem o_ground : isO 2 2 := ⟨by omega, fun _ => rfl⟩
theorem o_judge : isO 3 108 := ⟨by omega, fun _ => rfl⟩
theorem o_search : isO 5 110 := ⟨by omega, fun _ => rfl⟩
theorem o_draft : isO 4 106 := ⟨by omega, fun _ => rfl⟩
theorem o_sky {s : Nat} (h : isSky s) : isO 6 s := by rcases h with rfl | rfl <;> exact ⟨by omega, fun _ => rfl⟩
theorem o_zone {i : Nat} (h : i < 6) : isO 7 (8 + i) := by
  rcases (show i = 0 ∨ i = 1 ∨ i = 2 ∨ i = 3 ∨ i = 4 ∨ i = 5 by omega) with rfl | rfl | rfl | rfl | rfl | rfl <;> exact ⟨by omega, fun _ => rfl⟩
theorem e_sky {s : Nat} (h : isSky s) {d : Nat} (hd : d < 46) (f : Nat → Int32) : eN (s + d) f = eSky s d f := by
  rcases h with rfl | rfl
  · have h1 : ¬ 14 + d < 14 := by omega
    have h2 : 14 + d < 60 := by omega
    unfold eN
    rw [if_neg h1, if_pos h2, Nat.add_sub_cancel_left]
  · have h1 : ¬ 60 + d < 14 := by omega
    have h2 : ¬ 60 + d < 60 := by omega
    have h3 : 60 + d < 106 := by omega
    unfold eN
    rw [if_neg h1, if_neg h2, if_pos h3, Nat.add_sub_cancel_left]
theorem isSky.le {s : Nat} (h : isSky s) : 14 ≤ s ∧ s ≤ 60 := by rcases h with rfl | rfl <;> omega
theorem o_craft {s : Nat} (h : isSky s) {i : Nat} (hi : i < 6) : isO 0 (s + 4 + i) := by
  have hs := h.le
  refine ⟨by omega, fun f => ?_⟩
  rw [Nat.add_assoc, e_sky h (by omega)]
  unfold eSky
  rw [if_neg (by omega), if_neg (by omega), if_neg (by omega), if_neg (by omega), if_pos (by omega)]
theorem o_flight {s : Nat} (h : isSky s) {i : Nat} (hi : i < 12) : isO 1 (s + 10 + 3 * i) := by
  have hs := h.le
  refine ⟨by omega, fun f => ?_⟩
  rw [Nat.add_assoc, e_sky h (by omega)]
  unfold eSky
  rw [if_neg (by omega), if_neg (by omega), if_neg (by omega), if_neg (by omega), if_neg (by omega), if_pos (by omega)]
theorem o_route {s : Nat} (h : isSky s) {i : Nat} (hi : i < 12) : isO 4 (s + 10 + 3 * i + 1) := by
  have hs := h.le
  refine ⟨by omega, fun f => ?_⟩
  rw [show s + 10 + 3 * i + 1 = s + (10 + 3 * i + 1) by omega, e_sky h (by omega)]
  unfold eSky
  rw [if_neg (by omega), if_neg (by omega), if_neg (by omega), if_neg (by omega), if_neg (by omega), if_neg (by omega), if_pos (by omega)]
theorem a_cells {s : Nat} (h : isSky s) {i : Nat} (hi : i < 12) : isA 0 10 (s + 10 + 3 * i + 1 + 1) := by
  have hs := h.le
  refine ⟨by omega, fun f => ?_⟩
  rw [show s + 10 + 3 * i + 1 + 1 = s + (10 + 3 * i + 2) by omega, e_sky h (by omega)]
  unfold eSky
  rw [if_neg (by omega), if_neg (by omega), if_neg (by omega), if_neg (by omega), if_neg (by omega), if_neg (by omega), if_neg (by omega)]
theorem a_houses : isA 0 25 3 := ⟨by omega, fun _ => rfl⟩
theorem a_towers : isA 1 25 4 := ⟨by omega, fun _ => rfl⟩
theorem a_padAt : isA 0 25 5 := ⟨by omega, fun _ => rfl⟩
theorem a_padCells : isA 0 5 6 := ⟨by omega, fun _ => rfl⟩
theorem a_draft : isA 0 10 107 := ⟨by omega, fun _ => rfl⟩
theorem a_planned : isA 0 25 109 := ⟨by omega, fun _ => rfl⟩
theorem a_open : isA 1 25 111 := ⟨by omega, fun _ => rfl⟩
theorem a_reached : isA 0 25 112 := ⟨by omega, fun _ => rfl⟩
theorem a_heard {s : Nat} (h : isSky s) : isA 0 25 (s + 3) := by rcases h with rfl | rfl <;> exact ⟨by omega, fun _ => rfl⟩
theorem r_zones : isR 2 6 7 rowZ := ⟨by omega, fun _ => rfl⟩
theorem r_crafts {s : Nat} (h : isSky s) : isR 3 6 (s + 1) (rowC s) := by rcases h with rfl | rfl <;> exact ⟨by omega, fun _ => rfl⟩
theorem r_flights {s : Nat} (h : isSky s) : isR 4 12 (s + 2) (rowF s) := by rcases h with rfl | rfl <;> exact ⟨by omega, fun _ => rfl⟩
/-! rows over the system's numbers -/
section QSys
variable {z : qZ} {k : Nat} {y w : qY} {pc : Nat} {Lc st st0 : List Value} {σ σ' : Nat → Nat → Int32} {X : qM} {n bc bs : Nat} {Q Q' : qQ}
theorem ES_getf {idx ci j r : Nat} {ty : FieldType} {fin : Bool} {v : Value} (hd : decode y.2.1 pc = .ok (.getfield idx, 3)) (hl : qLK y.1.cls idx ci j ty fin) (hn : 112 ≤ n) (ho : isO ci r) (hv : (oF ci r (σ r))[j]? = some v)
    (kk : EV z k y (pc + 3) Lc (v :: st) (mm σ X) n bc bs Q) : EV z k y pc Lc (.ref r :: st) (mm σ X) n bc bs Q :=
  EV_getf hd hl ⟨ho.1.1, Nat.le_trans ho.1.2 hn⟩ ((mm_at ho.1.2).trans (ho.2 _)) hv kk
theorem ES_put {idx ci j r : Nat} {ty : FieldType} {v : Int32} (hd : decode y.2.1 pc = .ok (.putfield idx, 3)) (hl : qLK y.1.cls idx ci j ty false) (hn : 112 ≤ n) (ho : isO ci r) (hj : j < (oF ci r (σ r)).length) (hs : ∀ (f : Nat → Int32) (v : Int32), (oF ci r f).set j (.int v) = oF ci r (upd f j v)) (hna : narrow ty (.int v) = .int v) (hfi : fits ty (.int v) = true)
    (kk : EV z k y (pc + 3) Lc st (mm (sset σ r j v) X) n bc bs Q) : EV z k y pc Lc (.int v :: .ref r :: st) (mm σ X) n bc bs Q := by
  refine EV_putf hd hl ⟨ho.1.1, Nat.le_trans ho.1.2 hn⟩ ((mm_at ho.1.2).trans (ho.2 _)) hj (fun _ => hna) (fun _ => hfi) ?_
  rw [hs, ← ho.2, mm_row ho.1.2]
  exact kk
theorem ES_iald {r len : Nat} {i : Int32} (hd : decode y.2.1 pc = .ok (.iaload, 1)) (hn : 112 ≤ n) (ha : isA 0 len r) (hin : vp_in i len)
    (kk : EV z k y (pc + 1) Lc (.int (σ r i.toNatClampNeg) :: st) (mm σ X) n bc bs Q) : EV z k y pc Lc (.int i :: .ref r :: st) (mm σ X) n bc bs Q :=
  EV_iald hd ⟨ha.1.1, Nat.le_trans ha.1.2 hn⟩ ((mm_at ha.1.2).trans (ha.2 _)) hin kk
theorem ES_zald {r len : Nat} {i : Int32} (hd : decode y.2.1 pc = .ok (.baload, 1)) (hn : 112 ≤ n) (ha : isA 1 len r) (hin : vp_in i len)
    (kk : EV z k y (pc + 1) Lc (.int (σ r i.toNatClampNeg) :: st) (mm σ X) n bc bs Q) : EV z k y pc Lc (.int i :: .ref r :: st) (mm σ X) n bc bs Q :=
  EV_zald hd ⟨ha.1.1, Nat.le_trans ha.1.2 hn⟩ ((mm_at ha.1.2).trans (ha.2 _)) hin kk
theorem ES_iast {r len : Nat} {i x : Int32} (hd : decode y.2.1 pc = .ok (.iastore, 1)) (hn : 112 ≤ n) (ha : isA 0 len r) (hin : vp_in i len)
    (kk : EV z k y (pc + 1) Lc st (mm (sset σ r i.toNatClampNeg x) X) n bc bs Q) : EV z k y pc Lc (.int x :: .int i :: .ref r :: st) (mm σ X) n bc bs Q := by
  refine EV_iast hd ⟨ha.1.1, Nat.le_trans ha.1.2 hn⟩ ((mm_at ha.1.2).trans (ha.2 _)) hin ?_
  rw [← ha.2, mm_row ha.1.2]
  exact kk
theorem ES_zast {r len : Nat} {i x : Int32} (hd : decode y.2.1 pc = .ok (.bastore, 1)) (hn : 112 ≤ n) (ha : isA 1 len r) (hin : vp_in i len) (hx : vp_nar .boolean x = x)
    (kk : EV z k y (pc + 1) Lc st (mm (sset σ r i.toNatClampNeg x) X) n bc bs Q) : EV z k y pc Lc (.int x :: .int i :: .ref r :: st) (mm σ X) n bc bs Q := by
  refine EV_zast hd ⟨ha.1.1, Nat.le_trans ha.1.2 hn⟩ ((mm_at ha.1.2).trans (ha.2 _)) hin hx ?_
  rw [← ha.2, mm_row ha.1.2]
  exact kk
theorem ES_alen {r len t : Nat} {ty : FieldType} (hd : decode y.2.1 pc = .ok (.arraylength, 1)) (hn : 112 ≤ n) (ha : isA t len r) (ht : ∀ cA : Nat → ClassId, (qT cA)[t]? = some (cA t, ty))
    (kk : EV z k y (pc + 1) Lc (.int (Int32.ofNat len) :: st) (mm σ X) n bc bs Q) : EV z k y pc Lc (.ref r :: st) (mm σ X) n bc bs Q :=
  EV_alen hd ⟨ha.1.1, Nat.le_trans ha.1.2 hn⟩ ((mm_at ha.1.2).trans (ha.2 _)) ht kk
theorem ES_aald {r r' len t : Nat} {g : Nat → Option Nat} {i : Int32} {ty : FieldType} (hd : decode y.2.1 pc = .ok (.aaload, 1)) (hn : 112 ≤ n) (ha : isR t len r g) (ht : ∀ cA : Nat → ClassId, (qT cA)[t]? = some (cA t, ty)) (hty : ty.isReference = true) (hin : vp_in i len) (hg : g i.toNatClampNeg = some r')
    (kk : EV z k y (pc + 1) Lc (.ref r' :: st) (mm σ X) n bc bs Q) : EV z k y pc Lc (.int i :: .ref r :: st) (mm σ X) n bc bs Q :=
  EV_aald hd ⟨ha.1.1, Nat.le_trans ha.1.2 hn⟩ ((mm_at ha.1.2).trans (ha.2 _)) ht hty hin hg kk
theorem ES_aaldZ {i : Nat} (hd : decode y.2.1 pc = .ok (.aaload, 1)) (hn : 112 ≤ n) (hi : i < 6)
    (kk : EV z k y (pc + 1) Lc (.ref (8 + i) :: st) (mm σ X) n bc bs Q) : EV z k y pc Lc (.int (nI i) :: .ref 7 :: st) (mm σ X) n bc bs Q :=
  ES_aald hd hn r_zones (fun _ => rfl) rfl (vp_in_nI hi (by omega)) (by rw [nI_clamp (by omega), rowZ, if_pos hi]) kk
theorem ES_aaldC {s i : Nat} (hs : isSky s) (hd : decode y.2.1 pc = .ok (.aaload, 1)) (hn : 112 ≤ n) (hi : i < 6)
    (kk : EV z k y (pc + 1) Lc (.ref (s + 4 + i) :: st) (mm σ X) n bc bs Q) : EV z k y pc Lc (.int (nI i) :: .ref (s + 1) :: st) (mm σ X) n bc bs Q :=
  ES_aald hd hn (r_crafts hs) (fun _ => rfl) rfl (vp_in_nI hi (by omega)) (by rw [nI_clamp (by omega), rowC, if_pos hi]) kk
theorem ES_aaldF {s i : Nat} (hs : isSky s) (hd : decode y.2.1 pc = .ok (.aaload, 1)) (hn : 112 ≤ n) (hi : i < 12)
    (kk : EV z k y (pc + 1) Lc (.ref (s + 10 + 3 * i) :: st) (mm σ X) n bc bs Q) : EV z k y pc Lc (.int (nI i) :: .ref (s + 2) :: st) (mm σ X) n bc bs Q :=
  ES_aald hd hn (r_flights hs) (fun _ => rfl) rfl (vp_in_nI hi (by omega)) (by rw [nI_clamp (by omega), rowF, if_pos hi]) kk
theorem ES_aaldC' {s : Nat} {x : Int32} (hs : isSky s) (hd : decode y.2.1 pc = .ok (.aaload, 1)) (hn : 112 ≤ n) (hx : vp_in x 6)
    (kk : EV z k y (pc + 1) Lc (.ref (s + 4 + x.toNatClampNeg) :: st) (mm σ X) n bc bs Q) : EV z k y pc Lc (.int x :: .ref (s + 1) :: st) (mm σ X) n bc bs Q := by
  obtain ⟨i, hi, rfl⟩ := vp_in_of hx (by omega)
  rw [nI_clamp (by omega)] at kk
  exact ES_aaldC hs hd hn hi kk
theorem ES_aaldF' {s : Nat} {x : Int32} (hs : isSky s) (hd : decode y.2.1 pc = .ok (.aaload, 1)) (hn : 112 ≤ n) (hx : vp_in x 12)
    (kk : EV z k y (pc + 1) Lc (.ref (s + 10 + 3 * x.toNatClampNeg) :: st) (mm σ X) n bc bs Q) : EV z k y pc Lc (.int x :: .ref (s + 2) :: st) (mm σ X) n bc bs Q := by
  obtain ⟨i, hi, rfl⟩ := vp_in_of hx (by omega)
  rw [nI_clamp (by omega)] at kk
  exact ES_aaldF hs hd hn hi kk
theorem vp_lt {x : Int32} {N : Nat} (h : vp_in x N) : x.toNatClampNeg < N := Nat.not_le.mp fun q => h (Or.inr q)
theorem vp_mono {x : Int32} {N N' : Nat} (h : vp_in x N) (hN : N ≤ N') : vp_in x N' := fun q => h (q.imp_right fun g => Nat.le_trans hN g)
/-- a method that ends with this answer and this state, whatever else lies there -/
def qRes (v : Option Value) (M2 : qM) (n2 : Nat) : qQ := fun v' M' n' => v' = v ∧ M' = M2 ∧ n' = n2
def SP (z : qZ) (k : Nat) (w : qY) (as : List Value) (σ : Nat → Nat → Int32) (v : Option Value) (σ' : Nat → Nat → Int32) : Prop := ∀ (X : qM) (n : Nat), 112 ≤ n → CT z k w as (mm σ X) n 0 0 (qRes v (mm σ' X) n)
theorem SP_of {as : List Value} {v : Option Value} (m0 : Nat) (hpl : plainName w.1.cls = true) (hlen : (lg_sl as).length ≤ w.2.2.1) (h : ∀ (X : qM) (n : Nat), 112 ≤ n → EV z k w 0 (qent as ++ List.replicate m0 .null) [] (mm σ X) n 0 0 (qRes v (mm σ' X) n)) : SP z k w as σ v σ' := fun X n hn => CT_of m0 hpl hlen (h X n hn)
theorem SP.to {as : List Value} {v v2 : Option Value} {σ2 : Nat → Nat → Int32} (h : SP z k w as σ v σ') (hv : v = v2) (hσ : σ' = σ2) : SP z k w as σ v2 σ2 := by
  subst hv; subst hσ; exact h
theorem ES_callV {idx na r ci : Nat} {T : u_T} {N : Nat} {As : List Value} {v : Option Value} (hd : decode y.2.1 pc = .ok (.invokevirtual idx, 3)) (hl : qLM y.1.cls idx w) (hf : qMf w na) (hv : qMv w) (hn : 112 ≤ n) (ho : isO ci r) (hc : vwCl[ci]? = some (w.1.cls, T, N)) (hsp : SP z k w (.ref r :: As) σ v σ') (hst : st0 = As.reverse ++ .ref r :: st) (hna : As.length = na) (hcat : (st.map fun v => v.category).sum ≤ 8)
    (kk : EV z (k + 1) y (pc + 3) Lc (v.toList ++ st) (mm σ' X) n bc bs Q) : EV z (k + 1) y pc Lc st0 (mm σ X) n bc bs Q :=
  EV_callV (mc := 0) (ms := 0) hd hl hf hv ⟨ho.1.1, Nat.le_trans ho.1.2 hn⟩ ((mm_at ho.1.2).trans (ho.2 _)) hc (hsp X n hn) hst hna hcat (fun v' M' n' h => by obtain ⟨rfl, rfl, rfl⟩ := h; exact kk)
theorem ES_callS {idx na : Nat} {As : List Value} {v : Option Value} (hd : decode y.2.1 pc = .ok (.invokestatic idx, 3)) (hl : qLM y.1.cls idx w) (hf : qMf w na) (hv : Cond.static w.1 ∈ qTBL) (hn : 112 ≤ n) (hsp : SP z k w As σ v σ') (hst : st0 = As.reverse ++ st) (hna : As.length = na) (hcat : (st.map fun v => v.category).sum ≤ 8)
    (kk : EV z (k + 1) y (pc + 3) Lc (v.toList ++ st) (mm σ' X) n bc bs Q) : EV z (k + 1) y pc Lc st0 (mm σ X) n bc bs Q :=
  EV_callS (mc := 0) (ms := 0) hd hl hf hv (hsp X n hn) hst hna hcat (fun v' M' n' h => by obtain ⟨rfl, rfl, rfl⟩ := h; exact kk)
theorem ES_iret {x : Int32} {ty : FieldType} {v : Option Value} (hd : decode y.2.1 pc = .ok (.ireturn, 1)) (hr : y.2.2.2 = some ty) (hna : narrow ty (.int x) = .int x) (hv : some (.int x) = v) (hσ : σ = σ') : EV z k y pc Lc [.int x] (mm σ X) n bc bs (qRes v (mm σ' X) n) :=
  EV_iret hd hr hna ⟨hv, by rw [hσ], rfl⟩
theorem ES_dret {x : UInt64} {v : Option Value} (hd : decode y.2.1 pc = .ok (.dreturn, 1)) (hr : y.2.2.2 = some .double) (hv : some (.double x) = v) (hσ : σ = σ') : EV z k y pc Lc [.double x] (mm σ X) n bc bs (qRes v (mm σ' X) n) :=
  EV_dret hd hr ⟨hv, by rw [hσ], rfl⟩
theorem ES_lret {x : Int64} {v : Option Value} (hd : decode y.2.1 pc = .ok (.lreturn, 1)) (hr : y.2.2.2 = some .long) (hv : some (.long x) = v) (hσ : σ = σ') : EV z k y pc Lc [.long x] (mm σ X) n bc bs (qRes v (mm σ' X) n) :=
  EV_lret hd hr ⟨hv, by rw [hσ], rfl⟩
theorem ES_vret (hd : decode y.2.1 pc = .ok (.return_, 1)) (hr : y.2.2.2 = none) (hσ : σ = σ') : EV z k y pc Lc [] (mm σ X) n bc bs (qRes none (mm σ' X) n) :=
  EV_vret hd hr ⟨rfl, by rw [hσ], rfl⟩
theorem ES_acopy {idx r0 r1 len : Nat} {cn : Int32} (hd : decode y.2.1 pc = .ok (.invokestatic idx, 3)) (hl : Cond.methodLink y.1.cls idx arraycopyName ∈ qTBL) (hn : 112 ≤ n) (h0 : isA 0 len r0) (h1 : isA 0 len r1) (hcn : cn.toInt = (len : Int)) (hcat : (st.map fun v => v.category).sum ≤ 8)
    (kk : EV z (k + 1) y (pc + 3) Lc st (mm (srow σ r1 (va_cpy (σ r0) (σ r1) 0 0 len)) X) n bc bs Q) : EV z (k + 1) y pc Lc (.int cn :: .int 0 :: .ref r1 :: .int 0 :: .ref r0 :: st) (mm σ X) n bc bs Q := by
  refine EV_acopy hd hl lna_copy ls_copy ln_System ⟨h0.1.1, Nat.le_trans h0.1.2 hn⟩ ⟨h1.1.1, Nat.le_trans h1.1.2 hn⟩ ((mm_at h0.1.2).trans (h0.2 _)) ((mm_at h1.1.2).trans (h1.2 _)) hcn hcat ?_
  rw [← h1.2, mm_row h1.1.2]
  exact kk
/-- a truth value as an int -/
def bI (b : Bool) : Int32 := match b with
  | true => 1
  | false => 0
theorem bI_nar (b : Bool) : narrow .boolean (.int (bI b)) = .int (bI b) := by cases b <;> rfl
theorem bI_fit (b : Bool) : fits .boolean (.int (bI b)) = true := by cases b <;> rfl
theorem bI_vp (b : Bool) : vp_nar .boolean (bI b) = bI b := by cases b <;> rfl
theorem bI_eq0 {b : Bool} : bI b = 0 ↔ b = false := by cases b <;> simp [bI]
end QSys
