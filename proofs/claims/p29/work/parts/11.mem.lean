section QMem
variable {z : qZ} {k : Nat} {y : qY} {pc : Nat} {Lc st : List Value} {M : qM} {n bc bs : Nat} {Q : qQ}
/-- a class of the worlds: its words are in the tables, its fields' types, its names apart -/
def qcok (ci : Nat) : Prop := ∀ (C : String) (T : u_T) (N : Nat), vwCl[ci]? = some (C, T, N) →
  (∀ w ∈ u_ws C T N, w ∈ qTBL) ∧ (∃ ty0 : Nat → FieldType, ∀ j, j < N → parseFieldDescriptor (T j).2.2.1 = some (ty0 j)) ∧ (∀ a, a < N → ∀ b, b < N → a ≠ b → (T a).2.1 ≠ (T b).2.1)
/-- a field as the code of a class names it: class, place, type, final or not -/
def qLK (own : String) (idx ci j : Nat) (ty : FieldType) (fin : Bool) : Prop := ∃ (C : String) (T : u_T) (N : Nat), vwCl[ci]? = some (C, T, N) ∧ j < N ∧ parseFieldDescriptor (T j).2.2.1 = some ty ∧ (T j).2.2.2 = fin ∧ qcok ci ∧
  (Cond.fieldLink own idx (T j).1 (T j).2.1 (T j).2.2.1 ∈ qTBL ∨ ∃ host, Cond.fieldLinkNest own idx (T j).1 (T j).2.1 (T j).2.2.1 host ∈ qTBL)
theorem qw_here (f : Nat → Nat) (cA : Nat → ClassId) {r : Nat} (hr : 0 < r ∧ r ≤ n) {e : qE} (hM : M r = e) : (qw f cA M n)[r - 1]? = some (f r, qe f cA e) := by
  rw [qw_at f cA M (show r - 1 < n by omega), show r - 1 + 1 = r by omega, hM]
theorem qw_put (f : Nat → Nat) (cA : Nat → ClassId) {r : Nat} (hr : 0 < r ∧ r ≤ n) (e : qE) : (qw f cA M n).set (r - 1) (f r, qe f cA e) = qw f cA (qset M r e) n := by
  have h := qw_set f cA M e (show r - 1 < n by omega)
  rw [show r - 1 + 1 = r by omega] at h
  exact h
/-- a heap behind a store is as large as before -/
theorem qR.of {D : va_G} {cA : Nat → ClassId} {b B : Nat} {M M' : qM} {n : Nat} {H : Heap} (h : va_P D vwCl (qw (qad b B) cA M' n) H) (hz : H.size = B + n) : qR D cA b B M' n H := ⟨h, hz⟩
theorem EV_getf {idx ci j r : Nat} {ty : FieldType} {fin : Bool} {fs : List Value} {v : Value} (hd : decode y.2.1 pc = .ok (.getfield idx, 3)) (hl : qLK y.1.cls idx ci j ty fin) (hr : 0 < r ∧ r ≤ n) (hM : M r = .inr (ci, fs)) (hv : fs[j]? = some v)
    (kk : EV z k y (pc + 3) Lc (v :: st) M n bc bs Q) : EV z k y pc Lc (.ref r :: st) M n bc bs Q := by
  intro p l e R s m args below meth c D cA b B tc ts Qf C H locs cells slots ls h1 h2 hR hS hl9
  obtain ⟨Cn, T, N, hc, hj, hty, hfin, hco, hlk⟩ := hl
  have he := qw_here (qad b B) cA hr hM
  have hv' : (fs.map (qv (qad b B)))[j]? = some (qv (qad b B) v) := by rw [List.getElem?_map, hv]; rfl
  have K := kk p l e R s m args below meth c D cA b B tc ts Qf C H locs cells slots ls h1 h2 hR hS hl9
  rcases hlk with hw | ⟨host, hw⟩
  · exact va_get (D := D) (cl := vwCl) (ci := ci) C.1 C.2.1 C.2.2.2.2.2.1 ((hco Cn T N hc).1) C.2.2.2.1 C.2.2.2.2.2.2.1.1 hR.1 (r - 1) he hc j hj (C.2.2.2.2.2.1 _ hw) (fun _ h => h) hv' hd K
  · exact va_getN (D := D) (cl := vwCl) (ci := ci) C.1 C.2.1 C.2.2.2.2.2.1 ((hco Cn T N hc).1) C.2.2.2.1 C.2.2.2.2.2.2.1.1 hR.1 (r - 1) he hc j hj (C.2.2.2.2.2.1 _ hw) (fun _ h => h) hv' hd K
theorem EV_putf {idx ci j r : Nat} {ty : FieldType} {fs : List Value} {v : Value} (hd : decode y.2.1 pc = .ok (.putfield idx, 3)) (hl : qLK y.1.cls idx ci j ty false) (hr : 0 < r ∧ r ≤ n) (hM : M r = .inr (ci, fs)) (hj2 : j < fs.length)
    (hn : ∀ f : Nat → Nat, narrow ty (qv f v) = qv f v) (hf : ∀ f : Nat → Nat, fits ty (qv f v) = true)
    (kk : EV z k y (pc + 3) Lc st (qset M r (.inr (ci, fs.set j v))) n bc bs Q) : EV z k y pc Lc (v :: .ref r :: st) M n bc bs Q := by
  intro p l e R s m args below meth c D cA b B tc ts Qf C H locs cells slots ls h1 h2 hR hS hl9
  obtain ⟨Cn, T, N, hc, hj, hty, hfin, hco, hlk⟩ := hl
  obtain ⟨hin, ⟨ty0, hty0⟩, hnm⟩ := hco Cn T N hc
  have he := qw_here (qad b B) cA hr hM
  have hD := qw_D b B C.2.2.2.2.2.2.2.2.1.1 cA M n
  have hset : (qw (qad b B) cA M n).set (r - 1) (qad b B r, .inr (ci, (fs.map (qv (qad b B))).set j (qv (qad b B) v))) = qw (qad b B) cA (qset M r (.inr (ci, fs.set j v))) n := by
    rw [← qw_put (qad b B) cA hr, ← List.map_set]; rfl
  have K : ∀ (H1 : Heap) (locs1 : List Loc), H1.size = H.size → va_P D vwCl ((qw (qad b B) cA M n).set (r - 1) (qad b B r, .inr (ci, (fs.map (qv (qad b B))).set j (qv (qad b B) v)))) H1 → va_S (fun q => B ≤ q) s.heap H1 locs1 → W p l e R s m args below meth c H1 locs1 cells slots Qf (F0 m (pc + 3) ls (st.map (qv (qad b B)))) := by
    intro H1 locs1 hz hP hS1
    rw [hset] at hP
    exact kk p l e R s m args below meth c D cA b B tc ts Qf C H1 locs1 cells slots ls h1 h2 ⟨hP, hz.trans hR.2⟩ hS1 hl9
  have hap := va_apart (own := y.1.cls) C.2.2.2.2.2.1 hin ty0 hty0 hnm C.2.2.2.2.2.2.1.1 hc
  obtain ⟨r', g1, cell, q1, q2, q3, q4⟩ := hR.1 (r - 1) _ he
  have hr' : r' = (Cn, T, N) := Option.some.inj (g1.symm.trans hc)
  subst hr'
  obtain ⟨hSl, hfc, kC, hkC, hkind⟩ := C.2.2.2.2.2.2.1.1.1 ci _ hc
  obtain ⟨cf, kf, fi, f, hi, hsl⟩ := hSl j hj
  have hlay := C.2.2.2.2.2.1 _ (hin _ (u_in_lay hj))
  unfold u_lay at hlay
  rw [if_neg (by rw [hfin]; decide)] at hlay
  have hst := (u_facts hfc hkC (u_lays C.2.2.2.2.2.1 hin hj) hi).1
  have h6 := u_store hfc hkC hkind hlay hi hty (hn (qad b B)) (hf (qad b B))
  have fin : ∀ H' : Heap, H'[qad b B r]? = some (cell.setSlot f.slot (qv (qad b B) v)) → H'.size = H.size → (∀ q, q ≠ qad b B r → H'[q]? = H[q]?) → W p l e R s m args below meth c H' (locs ++ [⟨qad b B r, f.slot⟩]) cells slots Qf (F0 m (pc + 3) ls (st.map (qv (qad b B)))) := by
    intro H' e1 e2 e3
    rw [hsl] at e1 ⊢
    exact K H' _ e2 (hR.1.set hD he ⟨_, hc, t_OB.to (V := updV (vp_V (fs.map (qv (qad b B)))) j (qv (qad b B) v)) ⟨_, e1, q2, q3, t_set q4 hap hj _⟩ (fun i _ => vp_updV_set (by rw [List.length_map]; exact hj2) _ i)⟩ e3) (hS.put e2 e3 (hD.2 (r - 1) _ he))
  rcases hlk with hw | ⟨host, hw⟩
  · exact W.putK C.1 C.2.1 (f := f) ⟨C.2.2.2.1, C.2.2.2.2.2.1 _ hw, ⟨_, _, _, hi⟩, hst⟩ (by rw [q2]; exact h6) q1 q3 (by rw [hsl]; exact k2_hasslot (q4 j hj)) rfl rfl hd fin
  · exact va_WputK C.1 C.2.1 (f := f) C.2.2.2.1 (C.2.2.2.2.2.1 _ hw) hi hst (by rw [q2]; exact h6) q1 q3 (by rw [hsl]; exact k2_hasslot (q4 j hj)) rfl rfl hd fin
theorem EV_putfin {idx ci j r : Nat} {ty : FieldType} {fs : List Value} {v : Value} (hd : decode y.2.1 pc = .ok (.putfield idx, 3)) (hl : qLK y.1.cls idx ci j ty true) (hin2 : y.1.name = "<init>") (hdecl : ∀ (C : String) (T : u_T) (N : Nat), vwCl[ci]? = some (C, T, N) → (T j).1 = y.1.cls ∧ Cond.fieldLink y.1.cls idx (T j).1 (T j).2.1 (T j).2.2.1 ∈ qTBL) (hr : 0 < r ∧ r ≤ n) (hM : M r = .inr (ci, fs)) (hj2 : j < fs.length)
    (hn : ∀ f : Nat → Nat, narrow ty (qv f v) = qv f v) (hf : ∀ f : Nat → Nat, fits ty (qv f v) = true)
    (kk : EV z k y (pc + 3) Lc st (qset M r (.inr (ci, fs.set j v))) n bc bs Q) : EV z k y pc Lc (v :: .ref r :: st) M n bc bs Q := by
  intro p l e R s m args below meth c D cA b B tc ts Qf C H locs cells slots ls h1 h2 hR hS hl9
  obtain ⟨Cn, T, N, hc, hj, hty, hfin, hco, -⟩ := hl
  obtain ⟨hdec, hw⟩ := hdecl Cn T N hc
  obtain ⟨hin, ⟨ty0, hty0⟩, hnm⟩ := hco Cn T N hc
  have he := qw_here (qad b B) cA hr hM
  have hD := qw_D b B C.2.2.2.2.2.2.2.2.1.1 cA M n
  have hset : (qw (qad b B) cA M n).set (r - 1) (qad b B r, .inr (ci, (fs.map (qv (qad b B))).set j (qv (qad b B) v))) = qw (qad b B) cA (qset M r (.inr (ci, fs.set j v))) n := by
    rw [← qw_put (qad b B) cA hr, ← List.map_set]; rfl
  have hap := va_apart (own := y.1.cls) C.2.2.2.2.2.1 hin ty0 hty0 hnm C.2.2.2.2.2.2.1.1 hc
  obtain ⟨r', g1, cell, q1, q2, q3, q4⟩ := hR.1 (r - 1) _ he
  have hr' : r' = (Cn, T, N) := Option.some.inj (g1.symm.trans hc)
  subst hr'
  obtain ⟨hSl, hfc, kC, hkC, hkind⟩ := C.2.2.2.2.2.2.1.1.1 ci _ hc
  obtain ⟨cf, kf, fi, f, hi, hsl⟩ := hSl j hj
  have hlay := C.2.2.2.2.2.1 _ (hin _ (u_in_lay hj))
  unfold u_lay at hlay
  rw [if_pos hfin] at hlay
  have hst := (u_facts hfc hkC (u_lays C.2.2.2.2.2.1 hin hj) hi).1
  have hcf : m.cls = cf := by
    obtain ⟨_, _, c', _, _, _, -, -, hf', -, -, -, hown2, -⟩ := Cond.laysFinal_spec hlay
    have e1 : c' = cf := by have := hi.symm.trans hf'; simp at this; exact this.1.symm
    rw [hdec] at hown2
    rw [← e1]; exact Option.some.inj (C.2.2.2.1.symm.trans hown2)
  have h6 := u_fits hfc hkC hkind (Or.inr hlay) hi hty (hn (qad b B)) (hf (qad b B))
  refine W.putFinK C.1 C.2.1 C.2.2.2.1 (C.2.2.2.2.2.1 _ hw) hi hst hcf (C.2.2.2.2.1.trans hin2) (by rw [q2]; exact h6) q1 q3 (by rw [hsl]; exact k2_hasslot (q4 j hj)) rfl rfl hd fun H' e1 e2 e3 => ?_
  rw [hsl] at e1 ⊢
  have hP := hR.1.set (e := .inr (ci, (fs.map (qv (qad b B))).set j (qv (qad b B) v))) hD he (H1 := H') ⟨_, hc, t_OB.to (V := updV (vp_V (fs.map (qv (qad b B)))) j (qv (qad b B) v)) ⟨_, e1, q2, q3, t_set q4 hap hj _⟩ (fun i _ => vp_updV_set (by rw [List.length_map]; exact hj2) _ i)⟩ e3
  rw [hset] at hP
  exact kk p l e R s m args below meth c D cA b B tc ts Qf C H' _ cells slots ls h1 h2 ⟨hP, e2.trans hR.2⟩ (hS.put e2 e3 (hD.2 (r - 1) _ he)) hl9
/-! arrays -/
theorem EV_iald {r len : Nat} {f : Nat → Int32} {i : Int32} (hd : decode y.2.1 pc = .ok (.iaload, 1)) (hr : 0 < r ∧ r ≤ n) (hM : M r = .inl (0, len, .inl f)) (hin : vp_in i len)
    (kk : EV z k y (pc + 1) Lc (.int (f i.toNatClampNeg) :: st) M n bc bs Q) : EV z k y pc Lc (.int i :: .ref r :: st) M n bc bs Q := by
  intro p l e R s m args below meth c D cA b B tc ts Qf C H locs cells slots ls h1 h2 hR hS hl9
  exact va_iald (D := D) (cl := vwCl) C.1 C.2.1 C.2.2.2.2.2.2.1.1 hR.1 (r - 1) 0 (qw_here (qad b B) cA hr hM) rfl hin hd (kk p l e R s m args below meth c D cA b B tc ts Qf C H locs cells slots ls h1 h2 hR hS hl9)
theorem EV_zald {r len : Nat} {f : Nat → Int32} {i : Int32} (hd : decode y.2.1 pc = .ok (.baload, 1)) (hr : 0 < r ∧ r ≤ n) (hM : M r = .inl (1, len, .inl f)) (hin : vp_in i len)
    (kk : EV z k y (pc + 1) Lc (.int (f i.toNatClampNeg) :: st) M n bc bs Q) : EV z k y pc Lc (.int i :: .ref r :: st) M n bc bs Q := by
  intro p l e R s m args below meth c D cA b B tc ts Qf C H locs cells slots ls h1 h2 hR hS hl9
  exact va_zald (D := D) (cl := vwCl) C.1 C.2.1 C.2.2.2.2.2.2.1.1 hR.1 (r - 1) 1 (qw_here (qad b B) cA hr hM) rfl hin hd (kk p l e R s m args below meth c D cA b B tc ts Qf C H locs cells slots ls h1 h2 hR hS hl9)
theorem EV_aald {r r' len t : Nat} {g : Nat → Option Nat} {i : Int32} {ty : FieldType} (hd : decode y.2.1 pc = .ok (.aaload, 1)) (hr : 0 < r ∧ r ≤ n) (hM : M r = .inl (t, len, .inr (.inr (.inr (.inr g))))) (ht : ∀ cA : Nat → ClassId, (qT cA)[t]? = some (cA t, ty)) (hty : ty.isReference = true) (hin : vp_in i len) (hg : g i.toNatClampNeg = some r')
    (kk : EV z k y (pc + 1) Lc (.ref r' :: st) M n bc bs Q) : EV z k y pc Lc (.int i :: .ref r :: st) M n bc bs Q := by
  intro p l e R s m args below meth c D cA b B tc ts Qf C H locs cells slots ls h1 h2 hR hS hl9
  have he := qw_here (qad b B) cA hr hM
  have hlt : i.toNatClampNeg < len := Nat.not_le.mp fun q => hin (Or.inr q)
  have K := kk p l e R s m args below meth c D cA b B tc ts Qf C H locs cells slots ls h1 h2 hR hS hl9
  refine W.aald (v := .ref (qad b B r')) (ty := ty) C.1 C.2.1 (hR.1 (r - 1) _ he) ((C.2.2.2.2.2.2.1.1.2 t _ (ht cA)).1 len (fun j => va_rf ((g j).map (qad b B)))) hty (fun q => by cases q) (by show ¬ (i < 0 ∨ (arrV _ _ _).slots.size ≤ _); rw [arrV_size]; exact hin) ?_ rfl rfl hd K
  exact (arrV_read _ (fun j => va_rf ((g j).map (qad b B))) hlt).trans (by rw [hg]; rfl)
theorem EV_iast {r len : Nat} {f : Nat → Int32} {i x : Int32} (hd : decode y.2.1 pc = .ok (.iastore, 1)) (hr : 0 < r ∧ r ≤ n) (hM : M r = .inl (0, len, .inl f)) (hin : vp_in i len)
    (kk : EV z k y (pc + 1) Lc st (qset M r (.inl (0, len, .inl (upd f i.toNatClampNeg x)))) n bc bs Q) : EV z k y pc Lc (.int x :: .int i :: .ref r :: st) M n bc bs Q := by
  intro p l e R s m args below meth c D cA b B tc ts Qf C H locs cells slots ls h1 h2 hR hS hl9
  have hD := qw_D b B C.2.2.2.2.2.2.2.2.1.1 cA M n
  have he := qw_here (qad b B) cA hr hM
  refine W.iast C.1 C.2.1 (hR.1 (r - 1) _ he) ((C.2.2.2.2.2.2.1.1.2 0 _ rfl).1 len (fun j => .int (f j))) (fun q => by cases q) (by show ¬ (i < 0 ∨ (arrV _ _ _).slots.size ≤ _); rw [arrV_size]; exact hin) rfl rfl hd fun H1 e1 z1 oq => ?_
  have hP := hR.1.set (e := qe (qad b B) cA (.inl (0, len, .inl (upd f i.toNatClampNeg x)))) hD he (H1 := H1) ?_ oq
  · rw [qw_put (qad b B) cA hr] at hP
    exact kk p l e R s m args below meth c D cA b B tc ts Qf C H1 _ cells slots ls h1 h2 ⟨hP, z1.trans hR.2⟩ (hS.put z1 oq (hD.2 (r - 1) _ he)) hl9
  · show H1[qad b B r]? = some (vp_cell _ _)
    rw [e1]
    show some ((arrV (cA 0) len (fun j => Value.int (f j))).setSlot _ _) = some (arrV (cA 0) len (fun j => Value.int (upd f i.toNatClampNeg x j)))
    rw [arrV_store]
    congr 2
    funext q
    by_cases hq : q = i.toNatClampNeg
    · subst hq; simp [updV, upd]
    · simp [updV, upd, hq]
theorem EV_zast {r len : Nat} {f : Nat → Int32} {i x : Int32} (hd : decode y.2.1 pc = .ok (.bastore, 1)) (hr : 0 < r ∧ r ≤ n) (hM : M r = .inl (1, len, .inl f)) (hin : vp_in i len) (hx : vp_nar .boolean x = x)
    (kk : EV z k y (pc + 1) Lc st (qset M r (.inl (1, len, .inl (upd f i.toNatClampNeg x)))) n bc bs Q) : EV z k y pc Lc (.int x :: .int i :: .ref r :: st) M n bc bs Q := by
  intro p l e R s m args below meth c D cA b B tc ts Qf C H locs cells slots ls h1 h2 hR hS hl9
  have hD := qw_D b B C.2.2.2.2.2.2.2.2.1.1 cA M n
  have he := qw_here (qad b B) cA hr hM
  refine W.zast C.1 C.2.1 (hR.1 (r - 1) _ he) ((C.2.2.2.2.2.2.1.1.2 1 _ rfl).1 len (fun j => .int (f j))) (fun q => by cases q) (by show ¬ (i < 0 ∨ (arrV _ _ _).slots.size ≤ _); rw [arrV_size]; exact hin) rfl rfl hd fun H1 e1 z1 oq => ?_
  have hP := hR.1.set (e := qe (qad b B) cA (.inl (1, len, .inl (upd f i.toNatClampNeg (vp_nar .boolean x))))) hD he (H1 := H1) ?_ oq
  · rw [qw_put (qad b B) cA hr, hx] at hP
    exact kk p l e R s m args below meth c D cA b B tc ts Qf C H1 _ cells slots ls h1 h2 ⟨hP, z1.trans hR.2⟩ (hS.put z1 oq (hD.2 (r - 1) _ he)) hl9
  · show H1[qad b B r]? = some (vp_cell _ _)
    rw [e1]
    show some ((arrV (cA 1) len (fun j => Value.int (f j))).setSlot _ _) = some (arrV (cA 1) len (fun j => Value.int (upd f i.toNatClampNeg (vp_nar .boolean x) j)))
    rw [arrV_store]
    congr 2
    funext q
    by_cases hq : q = i.toNatClampNeg
    · subst hq
      simp [updV, upd, vp_nar]
      try rfl
    · simp [updV, upd, hq]
theorem EV_alen {r len t : Nat} {x : (Nat → Int32) ⊕ (Nat → Int64) ⊕ (Nat → UInt32) ⊕ (Nat → UInt64) ⊕ (Nat → Option Nat)} {ty : FieldType} (hd : decode y.2.1 pc = .ok (.arraylength, 1)) (hr : 0 < r ∧ r ≤ n) (hM : M r = .inl (t, len, x)) (ht : ∀ cA : Nat → ClassId, (qT cA)[t]? = some (cA t, ty))
    (kk : EV z k y (pc + 1) Lc (.int (Int32.ofNat len) :: st) M n bc bs Q) : EV z k y pc Lc (.ref r :: st) M n bc bs Q := by
  intro p l e R s m args below meth c D cA b B tc ts Qf C H locs cells slots ls h1 h2 hR hS hl9
  have he := qw_here (qad b B) cA hr hM
  refine va_alen (D := D) (cl := vwCl) C.1 C.2.1 C.2.2.2.2.2.2.1.1 hR.1 (r - 1) t he (ht cA) ?_ hd (kk p l e R s m args below meth c D cA b B tc ts Qf C H locs cells slots ls h1 h2 hR hS hl9)
  rcases x with x | x | x | x | x <;> rfl
/-- the script -/
theorem EV_sld {i : Int32} (hd : decode y.2.1 pc = .ok (.iaload, 1)) (hin : vp_in i z.1)
    (kk : EV z k y (pc + 1) Lc (.int (z.2 i.toNatClampNeg) :: st) M n bc bs Q) : EV z k y pc Lc (.int i :: .ref 0 :: st) M n bc bs Q := by
  intro p l e R s m args below meth c D cA b B tc ts Qf C H locs cells slots ls h1 h2 hR hS hl9
  exact va_sld C.1 C.2.1 C.2.2.2.2.2.2.2.1 (Nat.lt_of_lt_of_le C.2.2.2.2.2.2.2.2.1.1 C.2.2.2.2.2.2.2.2.1.2) (Nat.not_le.mpr C.2.2.2.2.2.2.2.2.1.1) hS hin hd (kk p l e R s m args below meth c D cA b B tc ts Qf C H locs cells slots ls h1 h2 hR hS hl9)
theorem EV_slen (hd : decode y.2.1 pc = .ok (.arraylength, 1))
    (kk : EV z k y (pc + 1) Lc (.int (Int32.ofNat z.1) :: st) M n bc bs Q) : EV z k y pc Lc (.ref 0 :: st) M n bc bs Q := by
  intro p l e R s m args below meth c D cA b B tc ts Qf C H locs cells slots ls h1 h2 hR hS hl9
  exact va_slen C.1 C.2.1 C.2.2.2.2.2.2.2.1 (Nat.lt_of_lt_of_le C.2.2.2.2.2.2.2.2.1.1 C.2.2.2.2.2.2.2.2.1.2) (Nat.not_le.mpr C.2.2.2.2.2.2.2.2.1.1) hS hd (kk p l e R s m args below meth c D cA b B tc ts Qf C H locs cells slots ls h1 h2 hR hS hl9)
end QMem
