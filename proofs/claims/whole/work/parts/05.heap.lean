section AMH
variable {p : Program} {l : Launch} {e : Env} {R : Room} {s : State} {m : MethodId} {args : Array Value} {below : List Frame} {meth : Method} {c : Code} {Q : State → Prop}
variable {cc : ByteArray} {D : va_G} {cl : List vw_C} {tys : List (ClassId × FieldType)} {b c0 L : Nat} {xs : Nat → Int32} {h0 h : am_H} {nL : Nat} {pcs : Nat → Nat} {own : String} {Tb : List Cond}
variable {H : Heap} {locs : List Loc} {ls : Array Slot} {cells slots : Nat} {lv : am_L} {st rest : List Value} {j pc : Nat} {X : am_C}
theorem am_P1 {q : Nat × va_E} (hq : va_at D cl q H) : va_P D cl [q] H := by
  intro k w hw
  cases k with
  | zero =>
    simp only [List.getElem?_cons_zero, Option.some.injEq] at hw
    subst hw
    exact hq
  | succ k => simp at hw
theorem am_adp {a : Nat} (ha : 0 < a) : am_ad b c0 a = c0 + a := if_neg (by omega)
/-- putfield, with all that is left as it was -/
theorem am_putO (hexec : p.tables.exec = Jvm.exec) (hb : c.code = cc) {Cn : String} {T : u_T} {N ci index k a : Nat} (hts : ∀ w ∈ Tb, w.before args s = true) (hin : ∀ w ∈ u_ws Cn T N, w ∈ Tb) (ty0 : Nat → FieldType) (hty : ∀ k, k < N → parseFieldDescriptor (T k).2.2.1 = some (ty0 k)) (hnm : ∀ a, a < N → ∀ b, b < N → a ≠ b → (T a).2.1 ≠ (T b).2.1) (hown : s.vm.findClass own = some m.cls) (hK : va_K D cl tys s) {fs : List Value} (hP : va_at D cl (a, .inr (ci, fs)) H) (hc : cl[ci]? = some (Cn, T, N)) (hk : k < N) (hlink : (Cond.fieldLink own index (T k).1 (T k).2.1 (T k).2.2.1).before args s = true) (hfin : (T k).2.2.2 = false ∨ ((T k).2.2.2 = true ∧ meth.name = "<init>" ∧ (T k).1 = own)) {v : Value} (hn : narrow (ty0 k) v = v) (hfit : fits (ty0 k) v = true) (hl : k < fs.length)
    (hdg : decode cc pc = .ok (.putfield index, 3)) (kk : ∀ (H1 : Heap) (x : Nat), va_at D cl (a, .inr (ci, fs.set k v)) H1 → H1.size = H.size → (∀ q, q ≠ a → H1[q]? = H[q]?) → W p l e R s m args below meth c H1 (locs ++ [⟨a, x⟩]) cells slots Q (F0 m (pc + 3) ls rest)) : W p l e R s m args below meth c H locs cells slots Q (F0 m pc ls (v :: .ref a :: rest)) := by
  have hap := va_apart (own := own) hts hin ty0 hty hnm hK hc
  obtain ⟨r, h1, cell, q1, q2, q3, q4⟩ := hP
  have hr : r = (Cn, T, N) := Option.some.inj (h1.symm.trans hc)
  subst hr
  obtain ⟨hS, hfc, kC, hkC, hkind⟩ := hK.1 ci _ hc
  obtain ⟨cf, kf, fi, f, hi, hsl⟩ := hS k hk
  have hlay := hts _ (hin _ (u_in_lay hk))
  have hst := (u_facts hfc hkC (u_lays hts hin hk) hi).1
  have hd := hty k hk
  rcases hfin with hfin | ⟨hfin, hin2, hdecl⟩
  · unfold u_lay at hlay
    rw [if_neg (by rw [hfin]; decide)] at hlay
    have h6 := u_store hfc hkC hkind hlay hi hd hn hfit
    refine W.putK hexec hb (f := f) ⟨hown, hlink, ⟨_, _, _, hi⟩, hst⟩ (by rw [q2]; exact h6) q1 q3 (by rw [hsl]; exact k2_hasslot (q4 k hk)) rfl rfl hdg fun H' e1 e2 e3 => ?_
    rw [hsl] at e1 ⊢
    exact kk H' _ ⟨_, hc, t_OB.to (V := updV (vp_V fs) k v) ⟨_, e1, q2, q3, t_set q4 hap hk v⟩ (fun j _ => vp_updV_set hl v j)⟩ e2 e3
  · unfold u_lay at hlay
    rw [if_pos hfin] at hlay
    have hcf : m.cls = cf := by
      obtain ⟨_, _, c', _, _, _, -, -, hf', -, -, -, hown2, -⟩ := Cond.laysFinal_spec hlay
      have e1 : c' = cf := by have := hi.symm.trans hf'; simp at this; exact this.1.symm
      rw [hdecl] at hown2
      rw [← e1]; exact Option.some.inj (hown.symm.trans hown2)
    have h6 := u_fits hfc hkC hkind (Or.inr hlay) hi hd hn hfit
    refine W.putFinK hexec hb hown hlink hi hst hcf hin2 (by rw [q2]; exact h6) q1 q3 (by rw [hsl]; exact k2_hasslot (q4 k hk)) rfl rfl hdg fun H' e1 e2 e3 => ?_
    rw [hsl] at e1 ⊢
    exact kk H' _ ⟨_, hc, t_OB.to (V := updV (vp_V fs) k v) ⟨_, e1, q2, q3, t_set q4 hap hk v⟩ (fun j _ => vp_updV_set hl v j)⟩ e2 e3
/-- which kind of number a type of field is -/
def am_kt (ty : FieldType) : Nat := match ty with
  | .int => 0
  | .long => 1
  | .object _ => 2
  | .array _ => 2
  | .boolean => 3
  | _ => 9
theorem am_ft_ok {ty : FieldType} {v : Value} (h : am_ft (am_kt ty) v = true) : narrow ty (am_r b c0 v) = am_r b c0 v ∧ fits ty (am_r b c0 v) = true := by
  cases ty <;> cases v <;> first | exact ⟨rfl, rfl⟩ | (simp [am_kt, am_ft] at h; done) | skip
  rename_i x
  simp only [am_kt, am_ft, Bool.or_eq_true, beq_iff_eq] at h
  rcases h with h | h <;> subst h <;> exact ⟨rfl, rfl⟩
theorem am_w_getfield {idx a k N : Nat} {Cn : String} {T : u_T} (C : CallFix p m c cc nL s args Tb own) (hd : decode cc pc = .ok (.getfield idx, 3)) (hnx : pcs (j + 1) = pc + 3) (hc : cl[a]? = some (Cn, T, N)) (hk : k < N) (hin : ∀ w ∈ u_ws Cn T N, w ∈ Tb) (hln : Jvm.Cond.fieldLink own idx (T k).1 (T k).2.1 (T k).2.2.1 ∈ Tb) (ha : a ≠ 1000000) (hn : am_r1 st (fun x r => am_ob (h.1 x) a (fun fs => am_fd fs k (fun v => some (j + 1, lv, v :: r, h)))) = some X) (hB : am_B D cl tys b c0 L xs s h0 nL h lv H locs ls cells slots) (K : am_K p l e R s m args below meth c Q D cl tys b c0 L xs h0 nL pcs X) : W p l e R s m args below meth c H locs cells slots Q (F0 m pc ls (st.map (am_r b c0))) := by
  unfold am_r1 at hn
  split at hn
  · rename_i x r
    dsimp only at hn
    unfold am_ob at hn
    split at hn
    · rename_i ci fs hx
      split at hn
      · rename_i hci
        subst hci
        dsimp only at hn
        unfold am_fd at hn
        split at hn
        · rename_i v hv
          cases hn
          have k9 := K _ _ _ _ _ hB
          dsimp only at k9
          rw [hnx] at k9
          obtain ⟨⟨h1, h2⟩, h3⟩ := hB.1.inr hx ha
          show W p l e R s m args below meth c H locs cells slots Q (F0 m pc ls (.ref (am_ad b c0 x) :: r.map (am_r b c0)))
          rw [am_adp h1]
          exact va_get (D := D) C.1 C.2.1 C.2.2.2.2 hin C.2.2.2.1 hB.1.2.2.1 (am_P1 h3) 0 rfl hc k hk (C.2.2.2.2 _ hln) (fun _ h => h) (v := am_r b c0 v) (by rw [List.getElem?_map, hv]; rfl) hd k9
        · cases hn
      · cases hn
    · cases hn
  · cases hn
theorem am_w_putfield {idx a k d N : Nat} {Cn : String} {T : u_T} (C : CallFix p m c cc nL s args Tb own) (hd : decode cc pc = .ok (.putfield idx, 3)) (hnx : pcs (j + 1) = pc + 3) (hc : cl[a]? = some (Cn, T, N)) (hk : k < N) (hin : ∀ w ∈ u_ws Cn T N, w ∈ Tb) (ty0 : Nat → FieldType) (hty : ∀ k, k < N → parseFieldDescriptor (T k).2.2.1 = some (ty0 k)) (hnm : ∀ a, a < N → ∀ b, b < N → a ≠ b → (T a).2.1 ≠ (T b).2.1) (hln : Jvm.Cond.fieldLink own idx (T k).1 (T k).2.1 (T k).2.2.1 ∈ Tb) (hfin : (T k).2.2.2 = false ∨ ((T k).2.2.2 = true ∧ meth.name = "<init>" ∧ (T k).1 = own)) (hdk : am_kt (ty0 k) = d) (ha : a ≠ 1000000) (hn : am_vr st (fun v x r => am_ob (h.1 x) a (fun fs => if k < fs.length ∧ am_ft d v = true then some (j + 1, lv, r, am_put h x (.inr (a, fs.set k v))) else none)) = some X) (hB : am_B D cl tys b c0 L xs s h0 nL h lv H locs ls cells slots) (K : am_K p l e R s m args below meth c Q D cl tys b c0 L xs h0 nL pcs X) : W p l e R s m args below meth c H locs cells slots Q (F0 m pc ls (st.map (am_r b c0))) := by
  unfold am_vr at hn
  split at hn
  · rename_i v x r
    dsimp only at hn
    unfold am_ob at hn
    split at hn
    · rename_i ci fs hx
      split at hn
      · rename_i hci
        subst hci
        dsimp only at hn
        split at hn
        · rename_i hv
          cases hn
          obtain ⟨⟨h1, h2⟩, h3⟩ := hB.1.inr hx ha
          obtain ⟨hv1, hv2⟩ := hv
          rw [← hdk] at hv2
          obtain ⟨f1, f2⟩ := am_ft_ok (b := b) (c0 := c0) hv2
          show W p l e R s m args below meth c H locs cells slots Q (F0 m pc ls (am_r b c0 v :: .ref (am_ad b c0 x) :: r.map (am_r b c0)))
          rw [am_adp h1]
          refine am_putO C.1 C.2.1 C.2.2.2.2 hin ty0 hty hnm C.2.2.2.1 hB.1.2.2.1 h3 hc hk (C.2.2.2.2 _ hln) hfin f1 f2 (by rw [List.length_map]; exact hv1) hd (fun H1 y e1 e2 e3 => ?_)
          have k9 := K _ _ _ _ _ (hB.put (k := y) (E := .inr (ci, fs.set k v)) h1 h2 e2 e3 (by show va_at D cl (c0 + x, .inr (ci, (fs.set k v).map (am_r b c0))) H1; rw [List.map_set]; exact e1))
          dsimp only at k9
          rw [hnx] at k9
          exact k9
        · cases hn
      · cases hn
    · cases hn
  · cases hn
theorem am_w_iaload (C : CallFix p m c cc nL s args Tb own) (hd : decode cc pc = .ok (.iaload, 1)) (hnx : pcs (j + 1) = pc + 1) (hty : ∃ cA, tys[0]? = some (cA, .int)) (hn : am_ir st (fun i x r => am_ai (h.1 x) 0 i (fun _ f => some (j + 1, lv, .int (f i.toNatClampNeg) :: r, h))) = some X) (hB : am_B D cl tys b c0 L xs s h0 nL h lv H locs ls cells slots) (K : am_K p l e R s m args below meth c Q D cl tys b c0 L xs h0 nL pcs X) : W p l e R s m args below meth c H locs cells slots Q (F0 m pc ls (st.map (am_r b c0))) := by
  unfold am_ir at hn
  split at hn
  · rename_i i x r
    dsimp only at hn
    unfold am_ai at hn
    split at hn
    · rename_i u n f hx
      split at hn
      · rename_i hu
        subst hu
        split at hn
        · cases hn
        · rename_i hin
          cases hn
          have k9 := K _ _ _ _ _ hB
          dsimp only at k9
          rw [hnx] at k9
          obtain ⟨cA, hcA⟩ := hty
          have hlt : i.toNatClampNeg < n := Nat.not_le.mp fun q => hin (Or.inr q)
          by_cases hx0 : x = 0
          · subst hx0
            obtain ⟨-, ⟨z1, scr, z2, z3, z4, z5, z6⟩, -⟩ := hB.1
            rw [z1] at hx
            cases hx
            exact W.iald (v := .int (xs i.toNatClampNeg)) C.1 C.2.1 z2 z3 z4 (by rw [z5]; exact hin) (z6 _ hlt) rfl rfl hd k9
          · obtain ⟨⟨h1, h2⟩, q, hq, h3⟩ := hB.1.inl hx hx0
            cases hcA.symm.trans hq
            show W p l e R s m args below meth c H locs cells slots Q (F0 m pc ls (.int i :: .ref (am_ad b c0 x) :: r.map (am_r b c0)))
            rw [am_adp h1]
            exact W.iald (v := .int (f i.toNatClampNeg)) C.1 C.2.1 h3 ((hB.1.2.2.1.2 _ _ hcA).1 n (fun j => .int (f j))) (fun q => by cases q) (by show ¬ (i < 0 ∨ (arrV _ _ _).slots.size ≤ _); rw [arrV_size]; exact hin) (arrV_read _ _ hlt) rfl rfl hd k9
      · cases hn
    · cases hn
  · cases hn
theorem am_w_laload (C : CallFix p m c cc nL s args Tb own) (hd : decode cc pc = .ok (.laload, 1)) (hnx : pcs (j + 1) = pc + 1) (hty : ∃ cA, tys[1]? = some (cA, .long)) (hn : am_ir st (fun i x r => am_al (h.1 x) 1 i (fun _ f => some (j + 1, lv, .long (f i.toNatClampNeg) :: r, h))) = some X) (hB : am_B D cl tys b c0 L xs s h0 nL h lv H locs ls cells slots) (K : am_K p l e R s m args below meth c Q D cl tys b c0 L xs h0 nL pcs X) : W p l e R s m args below meth c H locs cells slots Q (F0 m pc ls (st.map (am_r b c0))) := by
  unfold am_ir at hn
  split at hn
  · rename_i i x r
    dsimp only at hn
    unfold am_al at hn
    split at hn
    · rename_i u n f hx
      split at hn
      · rename_i hu
        subst hu
        split at hn
        · cases hn
        · rename_i hin
          cases hn
          have k9 := K _ _ _ _ _ hB
          dsimp only at k9
          rw [hnx] at k9
          obtain ⟨cA, hcA⟩ := hty
          have hlt : i.toNatClampNeg < n := Nat.not_le.mp fun q => hin (Or.inr q)
          by_cases hx0 : x = 0
          · subst hx0
            rw [hB.1.2.1.1] at hx
            cases hx
          · obtain ⟨⟨h1, h2⟩, q, hq, h3⟩ := hB.1.inl hx hx0
            cases hcA.symm.trans hq
            show W p l e R s m args below meth c H locs cells slots Q (F0 m pc ls (.int i :: .ref (am_ad b c0 x) :: r.map (am_r b c0)))
            rw [am_adp h1]
            exact W.lald (v := .long (f i.toNatClampNeg)) C.1 C.2.1 h3 ((hB.1.2.2.1.2 _ _ hcA).1 n (fun j => .long (f j))) (fun q => by cases q) (by show ¬ (i < 0 ∨ (arrV _ _ _).slots.size ≤ _); rw [arrV_size]; exact hin) (arrV_read _ _ hlt) rfl rfl hd k9
      · cases hn
    · cases hn
  · cases hn
theorem am_w_baload (C : CallFix p m c cc nL s args Tb own) (hd : decode cc pc = .ok (.baload, 1)) (hnx : pcs (j + 1) = pc + 1) (hty3 : ∃ cA, tys[3]? = some (cA, .boolean)) (hn : am_ir st (fun i x r => am_ab (h.1 x) i (fun _ _ f => some (j + 1, lv, .int (f i.toNatClampNeg) :: r, h))) = some X) (hB : am_B D cl tys b c0 L xs s h0 nL h lv H locs ls cells slots) (K : am_K p l e R s m args below meth c Q D cl tys b c0 L xs h0 nL pcs X) : W p l e R s m args below meth c H locs cells slots Q (F0 m pc ls (st.map (am_r b c0))) := by
  unfold am_ir at hn
  split at hn
  · rename_i i x r
    dsimp only at hn
    unfold am_ab at hn
    split at hn
    · rename_i u n f hx
      split at hn
      · rename_i hu
        split at hn
        · cases hn
        · rename_i hin
          cases hn
          have k9 := K _ _ _ _ _ hB
          dsimp only at k9
          rw [hnx] at k9
          have hlt : i.toNatClampNeg < n := Nat.not_le.mp fun q => hin (Or.inr q)
          have hx0 : x ≠ 0 := by
            intro hx0
            subst hx0
            rw [hB.1.2.1.1] at hx
            cases hx
            cases hu
          obtain ⟨⟨h1, h2⟩, q, hq, h3⟩ := hB.1.inl hx hx0
          show W p l e R s m args below meth c H locs cells slots Q (F0 m pc ls (.int i :: .ref (am_ad b c0 x) :: r.map (am_r b c0)))
          rw [am_adp h1]
          subst hu
          obtain ⟨cA, hcA⟩ := hty3
          cases hcA.symm.trans hq
          exact W.zald (v := .int (f i.toNatClampNeg)) C.1 C.2.1 h3 ((hB.1.2.2.1.2 _ _ hcA).1 n (fun j => .int (f j))) (fun q => by cases q) (by show ¬ (i < 0 ∨ (arrV _ _ _).slots.size ≤ _); rw [arrV_size]; exact hin) (arrV_read _ _ hlt) rfl rfl hd k9
      · cases hn
    · cases hn
  · cases hn
theorem am_w_aaload (C : CallFix p m c cc nL s args Tb own) (hd : decode cc pc = .ok (.aaload, 1)) (hnx : pcs (j + 1) = pc + 1) (htr : ∀ (t : Nat) (q : ClassId × FieldType), 4 ≤ t → tys[t]? = some q → q.2.isReference = true) (hn : am_ir st (fun i x r => am_aq (h.1 x) i (fun _ f => some (j + 1, lv, va_rf (f i.toNatClampNeg) :: r, h))) = some X) (hB : am_B D cl tys b c0 L xs s h0 nL h lv H locs ls cells slots) (K : am_K p l e R s m args below meth c Q D cl tys b c0 L xs h0 nL pcs X) : W p l e R s m args below meth c H locs cells slots Q (F0 m pc ls (st.map (am_r b c0))) := by
  unfold am_ir at hn
  split at hn
  · rename_i i x r
    dsimp only at hn
    unfold am_aq at hn
    split at hn
    · rename_i u n f hx
      split at hn
      · rename_i hu
        split at hn
        · cases hn
        · rename_i hin
          cases hn
          have k9 := K _ _ _ _ _ hB
          dsimp only at k9
          rw [hnx] at k9
          have hlt : i.toNatClampNeg < n := Nat.not_le.mp fun q => hin (Or.inr q)
          have hx0 : x ≠ 0 := by
            intro hx0
            subst hx0
            rw [hB.1.2.1.1] at hx
            cases hx
          obtain ⟨⟨h1, h2⟩, q, hq, h3⟩ := hB.1.inl hx hx0
          show W p l e R s m args below meth c H locs cells slots Q (F0 m pc ls (.int i :: .ref (am_ad b c0 x) :: r.map (am_r b c0)))
          rw [am_adp h1]
          have e8 : am_r b c0 (va_rf (f i.toNatClampNeg)) = va_rf ((f i.toNatClampNeg).map (am_ad b c0)) := by cases f i.toNatClampNeg <;> rfl
          have k8 : W p l e R s m args below meth c H locs cells slots Q (F0 m (pc + 1) ls (am_r b c0 (va_rf (f i.toNatClampNeg)) :: r.map (am_r b c0))) := k9
          rw [e8] at k8
          exact W.aald (v := va_rf ((f i.toNatClampNeg).map (am_ad b c0))) (ty := q.2) C.1 C.2.1 h3 ((hB.1.2.2.1.2 _ _ hq).1 n (fun j => va_rf ((f j).map (am_ad b c0)))) (htr _ _ hu hq) (fun q => by cases q) (by show ¬ (i < 0 ∨ (arrV _ _ _).slots.size ≤ _); rw [arrV_size]; exact hin) (arrV_read _ _ hlt) rfl rfl hd k8
      · cases hn
    · cases hn
  · cases hn
theorem am_w_bastore (C : CallFix p m c cc nL s args Tb own) (hd : decode cc pc = .ok (.bastore, 1)) (hnx : pcs (j + 1) = pc + 1) (hty3 : ∃ cA, tys[3]? = some (cA, .boolean)) (hn : am_iir st (fun v i x r => am_ab (h.1 x) i (fun u n f => if x = 0 then none else some (j + 1, lv, r, am_put h x (.inl (u, n, .inl (upd f i.toNatClampNeg (vp_nar (if u = 2 then .byte else .boolean) v))))))) = some X) (hB : am_B D cl tys b c0 L xs s h0 nL h lv H locs ls cells slots) (K : am_K p l e R s m args below meth c Q D cl tys b c0 L xs h0 nL pcs X) : W p l e R s m args below meth c H locs cells slots Q (F0 m pc ls (st.map (am_r b c0))) := by
  unfold am_iir at hn
  split at hn
  · rename_i v i x r
    dsimp only at hn
    unfold am_ab at hn
    split at hn
    · rename_i u n f hx
      split at hn
      · rename_i hu
        split at hn
        · cases hn
        · rename_i hin
          dsimp only at hn
          split at hn
          · cases hn
          · rename_i hx0
            cases hn
            have hlt : i.toNatClampNeg < n := Nat.not_le.mp fun q => hin (Or.inr q)
            obtain ⟨⟨h1, h2⟩, q, hq, h3⟩ := hB.1.inl hx hx0
            show W p l e R s m args below meth c H locs cells slots Q (F0 m pc ls (.int v :: .int i :: .ref (am_ad b c0 x) :: r.map (am_r b c0)))
            rw [am_adp h1]
            subst hu
            obtain ⟨cA, hcA⟩ := hty3
            cases hcA.symm.trans hq
            refine W.zast C.1 C.2.1 h3 ((hB.1.2.2.1.2 _ _ hcA).1 n (fun j => .int (f j))) (fun q => by cases q) (by show ¬ (i < 0 ∨ (arrV _ _ _).slots.size ≤ _); rw [arrV_size]; exact hin) rfl rfl hd fun H1 e1 e2 e3 => ?_
            have k9 := K _ _ _ _ _ (hB.put (k := i.toNatClampNeg) (E := .inl (3, n, .inl (upd f i.toNatClampNeg (vp_nar (if (3 : Nat) = 2 then .byte else .boolean) v)))) h1 h2 e2 e3 ⟨_, hcA, by
              rw [e1]
              show some (Cell.setSlot (vp_cell cA (n, .inl f)) _ _) = some (vp_cell cA (n, .inl (upd f i.toNatClampNeg (vp_nar .boolean v))))
              rw [vp_cell_i, vp_cell_i, arrV_store]
              congr 2
              funext q
              by_cases hq : q = i.toNatClampNeg
              · subst hq
                simp [updV, upd, vp_nar]
                try rfl
              · simp [updV, upd, hq]⟩)
            dsimp only at k9
            rw [hnx] at k9
            exact k9
      · cases hn
    · cases hn
  · cases hn
theorem am_w_iastore (C : CallFix p m c cc nL s args Tb own) (hd : decode cc pc = .ok (.iastore, 1)) (hnx : pcs (j + 1) = pc + 1) (hty : ∃ cA, tys[0]? = some (cA, .int)) (hn : am_iir st (fun v i x r => am_ai (h.1 x) 0 i (fun n f => if x = 0 then none else some (j + 1, lv, r, am_put h x (.inl (0, n, .inl (upd f i.toNatClampNeg v)))))) = some X) (hB : am_B D cl tys b c0 L xs s h0 nL h lv H locs ls cells slots) (K : am_K p l e R s m args below meth c Q D cl tys b c0 L xs h0 nL pcs X) : W p l e R s m args below meth c H locs cells slots Q (F0 m pc ls (st.map (am_r b c0))) := by
  unfold am_iir at hn
  split at hn
  · rename_i v i x r
    dsimp only at hn
    unfold am_ai at hn
    split at hn
    · rename_i u n f hx
      split at hn
      · rename_i hu
        subst hu
        split at hn
        · cases hn
        · rename_i hin
          dsimp only at hn
          split at hn
          · cases hn
          · rename_i hx0
            cases hn
            obtain ⟨cA, hcA⟩ := hty
            have hlt : i.toNatClampNeg < n := Nat.not_le.mp fun q => hin (Or.inr q)
            obtain ⟨⟨h1, h2⟩, q, hq, h3⟩ := hB.1.inl hx hx0
            cases hcA.symm.trans hq
            show W p l e R s m args below meth c H locs cells slots Q (F0 m pc ls (.int v :: .int i :: .ref (am_ad b c0 x) :: r.map (am_r b c0)))
            rw [am_adp h1]
            refine W.iast C.1 C.2.1 h3 ((hB.1.2.2.1.2 _ _ hcA).1 n (fun j => .int (f j))) (fun q => by cases q) (by show ¬ (i < 0 ∨ (arrV _ _ _).slots.size ≤ _); rw [arrV_size]; exact hin) rfl rfl hd fun H1 e1 e2 e3 => ?_
            have k9 := K _ _ _ _ _ (hB.put (k := i.toNatClampNeg) (E := .inl (0, n, .inl (upd f i.toNatClampNeg v))) h1 h2 e2 e3 ⟨_, hcA, by
              rw [e1]
              show some (Cell.setSlot (vp_cell cA (n, .inl f)) _ _) = some (vp_cell cA (n, .inl (upd f i.toNatClampNeg v)))
              rw [vp_cell_i, vp_cell_i, arrV_store]
              congr 2
              funext q
              by_cases hq : q = i.toNatClampNeg
              · subst hq
                simp [updV, upd]
                try rfl
              · simp [updV, upd, hq]⟩)
            dsimp only at k9
            rw [hnx] at k9
            exact k9
      · cases hn
    · cases hn
  · cases hn
theorem am_w_lastore (C : CallFix p m c cc nL s args Tb own) (hd : decode cc pc = .ok (.lastore, 1)) (hnx : pcs (j + 1) = pc + 1) (hty : ∃ cA, tys[1]? = some (cA, .long)) (hn : am_lir st (fun v i x r => am_al (h.1 x) 1 i (fun n f => if x = 0 then none else some (j + 1, lv, r, am_put h x (.inl (1, n, .inr (.inl (vp_updL f i.toNatClampNeg v))))))) = some X) (hB : am_B D cl tys b c0 L xs s h0 nL h lv H locs ls cells slots) (K : am_K p l e R s m args below meth c Q D cl tys b c0 L xs h0 nL pcs X) : W p l e R s m args below meth c H locs cells slots Q (F0 m pc ls (st.map (am_r b c0))) := by
  unfold am_lir at hn
  split at hn
  · rename_i v i x r
    dsimp only at hn
    unfold am_al at hn
    split at hn
    · rename_i u n f hx
      split at hn
      · rename_i hu
        subst hu
        split at hn
        · cases hn
        · rename_i hin
          dsimp only at hn
          split at hn
          · cases hn
          · rename_i hx0
            cases hn
            obtain ⟨cA, hcA⟩ := hty
            have hlt : i.toNatClampNeg < n := Nat.not_le.mp fun q => hin (Or.inr q)
            obtain ⟨⟨h1, h2⟩, q, hq, h3⟩ := hB.1.inl hx hx0
            cases hcA.symm.trans hq
            show W p l e R s m args below meth c H locs cells slots Q (F0 m pc ls (.long v :: .int i :: .ref (am_ad b c0 x) :: r.map (am_r b c0)))
            rw [am_adp h1]
            refine W.last C.1 C.2.1 h3 ((hB.1.2.2.1.2 _ _ hcA).1 n (fun j => .long (f j))) (fun q => by cases q) (by show ¬ (i < 0 ∨ (arrV _ _ _).slots.size ≤ _); rw [arrV_size]; exact hin) rfl rfl hd fun H1 e1 e2 e3 => ?_
            have k9 := K _ _ _ _ _ (hB.put (k := i.toNatClampNeg) (E := .inl (1, n, .inr (.inl (vp_updL f i.toNatClampNeg v)))) h1 h2 e2 e3 ⟨_, hcA, by
              rw [e1]
              show some (Cell.setSlot (vp_cell cA (n, .inr (.inl f))) _ _) = some (vp_cell cA (n, .inr (.inl (vp_updL f i.toNatClampNeg v))))
              rw [vp_cell_l, vp_cell_l, arrV_store]
              congr 2
              funext q
              by_cases hq : q = i.toNatClampNeg
              · subst hq
                simp [updV, vp_updL]
                try rfl
              · simp [updV, vp_updL, hq]⟩)
            dsimp only at k9
            rw [hnx] at k9
            exact k9
      · cases hn
    · cases hn
  · cases hn
theorem am_w_arraylength (C : CallFix p m c cc nL s args Tb own) (hd : decode cc pc = .ok (.arraylength, 1)) (hnx : pcs (j + 1) = pc + 1) (hn : am_r1 st (fun x r => am_al0 (h.1 x) (fun n => some (j + 1, lv, .int (Int32.ofNat n) :: r, h))) = some X) (hB : am_B D cl tys b c0 L xs s h0 nL h lv H locs ls cells slots) (K : am_K p l e R s m args below meth c Q D cl tys b c0 L xs h0 nL pcs X) : W p l e R s m args below meth c H locs cells slots Q (F0 m pc ls (st.map (am_r b c0))) := by
  unfold am_r1 at hn
  split at hn
  · rename_i x r
    dsimp only at hn
    unfold am_al0 at hn
    split at hn
    · rename_i u n f hx
      cases hn
      have k9 := K _ _ _ _ _ hB
      dsimp only at k9
      rw [hnx] at k9
      by_cases hx0 : x = 0
      · subst hx0
        obtain ⟨-, ⟨z1, scr, z2, z3, z4, z5, z6⟩, -⟩ := hB.1
        rw [z1] at hx
        cases hx
        exact W.alen (n := Int32.ofNat L) C.1 C.2.1 z2 z3 (by rw [z5] <;> rfl) rfl rfl hd k9
      · obtain ⟨⟨h1, h2⟩, q, hq, h3⟩ := hB.1.inl hx hx0
        show W p l e R s m args below meth c H locs cells slots Q (F0 m pc ls (.ref (am_ad b c0 x) :: r.map (am_r b c0)))
        rw [am_adp h1]
        have ho : ∀ z : Nat → Value, s.isArrayOf (arrV q.1 n z) q.2 := (hB.1.2.2.1.2 _ _ hq).1 n
        obtain f | f | f | f | f := f
        · exact W.alen (n := Int32.ofNat n) C.1 C.2.1 h3 (ho (fun j => .int (f j))) (by show (arrV _ _ _).slots.size.toInt32 = _; rw [arrV_size] <;> rfl) rfl rfl hd k9
        · exact W.alen (n := Int32.ofNat n) C.1 C.2.1 h3 (ho (fun j => .long (f j))) (by show (arrV _ _ _).slots.size.toInt32 = _; rw [arrV_size] <;> rfl) rfl rfl hd k9
        · exact W.alen (n := Int32.ofNat n) C.1 C.2.1 h3 (ho (fun j => .float (f j))) (by show (arrV _ _ _).slots.size.toInt32 = _; rw [arrV_size] <;> rfl) rfl rfl hd k9
        · exact W.alen (n := Int32.ofNat n) C.1 C.2.1 h3 (ho (fun j => .double (f j))) (by show (arrV _ _ _).slots.size.toInt32 = _; rw [arrV_size] <;> rfl) rfl rfl hd k9
        · exact W.alen (n := Int32.ofNat n) C.1 C.2.1 h3 (ho (fun j => va_rf ((f j).map (am_ad b c0)))) (by show (arrV _ _ _).slots.size.toInt32 = _; rw [arrV_size] <;> rfl) rfl rfl hd k9
    · cases hn
  · cases hn
theorem am_B.mk {E : am_E} {k : Nat} {H1 : Heap} (hB : am_B D cl tys b c0 L xs s h0 nL h lv H locs ls cells slots) (hz : H1.size = H.size + 1) (hq : ∀ q, q < H.size → H1[q]? = H[q]?) (hE : am_at D cl tys b c0 h.2.1 E H1) : am_B D cl tys b c0 L xs s h0 nL (am_mk h E k) lv H1 locs ls (cells + 1) (slots + k) := by
  obtain ⟨h1, h2, h3, h4, h5, h6⟩ := hB
  have hs := h1.1.1
  refine ⟨h1.mk hz hq hE, h2, fun q hq' => (hq q (by have := h1.1.2.1; omega)).trans (h3 q hq'), h4, ?_, ?_⟩
  · show h.2.1 + 1 = _
    omega
  · show h.2.2 + k = _
    omega
theorem am_w_newarray {at1 : ArrayType} {t : Nat} (C : CallFix p m c cc nL s args Tb own) (hd : decode cc pc = .ok (.newarray at1, 2)) (hnx : pcs (j + 1) = pc + 2) (hty : ∃ cA, tys[t]? = some (cA, newarray.typeOf at1)) (hw : Jvm.Cond.arrayClass (newarray.typeOf at1) ∈ Tb) (hz : ∀ cA N, vp_cell cA (N, am_zero t) = arrV cA N (fun _ => defaultValue (newarray.typeOf at1))) (hby : componentBytes (newarray.typeOf at1) ≤ 8) (hn : am_i1 st (fun n r => if n < 0 ∨ 1000000 < n.toNatClampNeg then none else some (j + 1, lv, .ref h.2.1 :: r, am_mk h (.inl (t, n.toNatClampNeg, am_zero t)) n.toNatClampNeg)) = some X) (hr : X.2.2.2.2.1 ≤ h0.2.1 + R.cells ∧ X.2.2.2.2.2 ≤ h0.2.2 + R.slots) (hB : am_B D cl tys b c0 L xs s h0 nL h lv H locs ls cells slots) (K : am_K p l e R s m args below meth c Q D cl tys b c0 L xs h0 nL pcs X) : W p l e R s m args below meth c H locs cells slots Q (F0 m pc ls (st.map (am_r b c0))) := by
  unfold am_i1 at hn
  split at hn
  · rename_i n r
    dsimp only at hn
    split at hn
    · cases hn
    · rename_i hc
      cases hn
      have e5 := hB.2.2.2.2.1
      have e6 := hB.2.2.2.2.2
      have hr1 : h.2.1 + 1 ≤ h0.2.1 + R.cells := hr.1
      have hr2 : h.2.2 + n.toNatClampNeg ≤ h0.2.2 + R.slots := hr.2
      have e1 := hB.1.1.1
      have e2 := hB.1.1.2.1
      obtain ⟨cA, hcA⟩ := hty
      refine va_newaK C.1 C.2.1 (C.2.2.2.2 _ hw) rfl hd rfl (fun q => hc (Or.inl q)) rfl (by have : n.toNatClampNeg ≤ 1000000 := Nat.not_lt.mp (fun q => hc (Or.inr q)); have := Nat.mul_le_mul this hby; omega) (by omega) (by omega) rfl fun H1 cA2 g1 g2 g3 g4 g5 => ?_
      have hca : cA2 = cA := by
        have h7 := (hB.1.2.2.1.2 _ _ hcA).2
        have h8 : s.vm.findClass ("[" ++ (newarray.typeOf at1).toString) = some cA := by cases at1 <;> exact h7
        exact Option.some.inj (g5.symm.trans h8)
      subst hca
      have k9 := K _ _ _ _ _ (hB.mk (k := n.toNatClampNeg) (E := .inl (t, n.toNatClampNeg, am_zero t)) g2 g3 ⟨_, hcA, by
        show H1[c0 + h.2.1]? = some (vp_cell cA2 (am_ra b c0 (n.toNatClampNeg, am_zero t)))
        rw [show am_ra b c0 (n.toNatClampNeg, am_zero t) = (n.toNatClampNeg, am_zero t) by unfold am_zero; split <;> rfl, hz, ← e1]
        exact g1⟩)
      dsimp only at k9
      rw [hnx] at k9
      have e9 : am_r b c0 (.ref h.2.1) = .ref H.size := by
        show Value.ref (am_ad b c0 h.2.1) = _
        rw [am_adp e2, e1]
      have k8 : W p l e R s m args below meth c H1 locs (cells + 1) (slots + n.toNatClampNeg) Q (F0 m (pc + 2) ls (am_r b c0 (.ref h.2.1) :: r.map (am_r b c0))) := k9
      rw [e9] at k8
      exact k8
  · cases hn
theorem am_w_new {idx a N : Nat} {Cn : String} {T : u_T} {df : Nat → List Value} (C : CallFix p m c cc nL s args Tb own) (hd : decode cc pc = .ok (.new idx, 3)) (hnx : pcs (j + 1) = pc + 3) (hc : cl[a]? = some (Cn, T, N)) (hin : ∀ w ∈ u_ws Cn T N, w ∈ Tb) (ty0 : Nat → FieldType) (hty : ∀ k, k < N → parseFieldDescriptor (T k).2.2.1 = some (ty0 k)) (hln : Jvm.Cond.classLink own idx Cn ∈ Tb) (hins : Jvm.Cond.instantiable Cn N ∈ Tb) (hini : Jvm.Cond.initialized Cn ∈ Tb) (hdl : (df a).length = N) (hdf : ∀ k, k < N → (df a)[k]? = some (defaultValue (ty0 k))) (hn : some (j + 1, lv, .ref h.2.1 :: st, am_mk h (.inr (a, df a)) (df a).length) = some X) (hr : X.2.2.2.2.1 ≤ h0.2.1 + R.cells ∧ X.2.2.2.2.2 ≤ h0.2.2 + R.slots) (hB : am_B D cl tys b c0 L xs s h0 nL h lv H locs ls cells slots) (K : am_K p l e R s m args below meth c Q D cl tys b c0 L xs h0 nL pcs X) : W p l e R s m args below meth c H locs cells slots Q (F0 m pc ls (st.map (am_r b c0))) := by
  cases hn
  have e5 := hB.2.2.2.2.1
  have e6 := hB.2.2.2.2.2
  have hr1 : h.2.1 + 1 ≤ h0.2.1 + R.cells := hr.1
  have hr2 : h.2.2 + (df a).length ≤ h0.2.2 + R.slots := hr.2
  rw [hdl] at hr2
  have e1 := hB.1.1.1
  have e2 := hB.1.1.2.1
  have hKn := hB.1.2.2.1.1 a _ hc
  refine W.newcK C.1 C.2.1 C.2.2.2.1 (C.2.2.2.2 _ hln) (C.2.2.2.2 _ hins) (C.2.2.2.2 _ hini) rfl hd (by omega) (by omega) hKn.2.1 rfl fun H1 kC hkC g1 g2 g3 => ?_
  have hob := (u_born ty0 C.2.2.2.2 hin hKn hkC g1 hty).to (V' := vp_V ((df a).map (am_r b c0))) (fun k hk => by
    show _ = ((df a).map (am_r b c0)).getD k .null
    rw [List.getD_eq_getElem?_getD, List.getElem?_map, hdf k hk]
    show _ = am_r b c0 (defaultValue (ty0 k))
    cases ty0 k <;> rfl)
  rw [e1] at hob
  have k9 := K _ _ _ _ _ (hB.mk (k := (df a).length) (E := .inr (a, df a)) g2 g3 ⟨_, hc, hob⟩)
  dsimp only at k9
  rw [hnx, hdl] at k9
  have e9 : am_r b c0 (.ref h.2.1) = .ref H.size := by
    show Value.ref (am_ad b c0 h.2.1) = _
    rw [am_adp e2, e1]
  have k8 : W p l e R s m args below meth c H1 locs (cells + 1) (slots + N) Q (F0 m (pc + 3) ls (am_r b c0 (.ref h.2.1) :: st.map (am_r b c0))) := k9
  rw [e9] at k8
  exact k8
theorem am_w_objInit {idx : Nat} (C : CallFix p m c cc nL s args Tb own) (hd : decode cc pc = .ok (.invokespecial idx, 3)) (hnx : pcs (j + 1) = pc + 3) (hln : Jvm.Cond.methodLink own idx Lib.objectInit ∈ Tb) (hi : Jvm.Cond.instanceMethod Lib.objectInit ∈ Tb) (hco : Jvm.Cond.code Lib.objectInit ⟨#[0xb1]⟩ 1 none ∈ Tb) (hfr : 1 ≤ R.frames) (hlo : 20 ≤ R.locals) (hn : am_r1 st (fun _ r => if (r.map fun v => v.category).sum ≤ 8 then some (j + 1, lv, r, h) else none) = some X) (hB : am_B D cl tys b c0 L xs s h0 nL h lv H locs ls cells slots) (K : am_K p l e R s m args below meth c Q D cl tys b c0 L xs h0 nL pcs X) : W p l e R s m args below meth c H locs cells slots Q (F0 m pc ls (st.map (am_r b c0))) := by
  unfold am_r1 at hn
  split at hn
  · rename_i x r
    dsimp only at hn
    split at hn
    · rename_i hs
      cases hn
      have k9 := K _ _ _ _ _ hB
      dsimp only at k9
      rw [hnx] at k9
      have hs2 : ((r.map (am_r b c0)).map fun v => v.category).sum ≤ 8 := by rw [am_cats]; exact hs
      have hrm := lv_room (m := m) (pc := pc) (ls := ls) (rest := []) hs2
      refine W.objInit C.1 C.2.1 C.2.2.2.1 (C.2.2.2.2 _ hln) (C.2.2.2.2 _ hi) (C.2.2.2.2 _ hco) rfl (hB.2.1.1.trans C.2.2.1.symm) (a := am_ad b c0 x) (rest := r.map (am_r b c0)) rfl hd hfr ?_ k9
      have : ∀ a b : Nat, a ≤ 8 → a + 12 ≤ 20 := fun a b h => by omega
      exact Nat.le_trans (Nat.add_le_add_right hrm 12) hlo
    · cases hn
  · cases hn
end AMH
