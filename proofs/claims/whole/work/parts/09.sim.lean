section AMT
variable {p : Program} {l : Launch} {e : Env} {R : Room} {s : State} {m : MethodId} {args : Array Value} {below : List Frame} {meth : Method} {c : Code} {Q : State → Prop}
variable {cc : ByteArray} {D : va_G} {cl : List vw_C} {tys : List (ClassId × FieldType)} {b c0 L : Nat} {xs : Nat → Int32} {h0 h : am_H} {nL : Nat} {own nm : String} {Tb : List Jvm.Cond}
variable {H : Heap} {locs : List Loc} {ls : Array Slot} {cells slots : Nat} {lv : am_L} {st rest : List Value} {j pc : Nat} {X : am_C}
variable {wd : Nat → Option Jvm.Cond} {tyL : List FieldType} {df : Nat → List Value} {MT : List am_M} {ret : Option FieldType} {code : List am_I}
theorem am_split (n : Nat) (st : List Value) : st.map (am_r b c0) = (((st.take n).reverse.map (am_r b c0))).reverse ++ (st.drop n).map (am_r b c0) := by
  rw [List.map_reverse, List.reverse_reverse, ← List.map_append, List.take_append_drop]
set_option maxHeartbeats 4000000 in
theorem am_w_call (G : am_Good Tb wd cl tyL df MT) (hN : am_N s) (C : CallFix p m c cc nL s args Tb own) {d : Nat} (hR : d + 1 ≤ R.frames ∧ (d + 1) * 36 ≤ R.locals) {E : am_I} (hk0 : am_kd E ≠ 0) (hk1 : am_kd E ≠ 1) (hok : am_ok wd cl tyL MT own nm cc nL ret code j E = true) (hcan : am_can E st h = true) {M : am_M} (hM : MT[am_a E]? = some M) {v : Option Value} {h2 : am_H} (hMet : am_Met l Tb D cl tys b c0 L xs d M (st.take (am_b E)).reverse h v h2) (hf : cells + (h2.2.1 - h.2.1) ≤ R.cells ∧ slots + (h2.2.2 - h.2.2) ≤ R.slots)
    (hB : am_B D cl tys b c0 L xs s h0 nL h lv H locs ls cells slots) (K : am_K p l e R s m args below meth c Q D cl tys b c0 L xs h0 nL (am_pcs code) (j + 1, lv, v.toList ++ st.drop (am_b E), h2)) : W p l e R s m args below meth c H locs cells slots Q (F0 m (am_pc E) ls (st.map (am_r b c0))) := by
  obtain ⟨hm, hMet⟩ := hMet
  obtain ⟨pc, len, i, a, b', c', d', q⟩ := E
  obtain ⟨y, bytes, maxL, rt, pos, code1⟩ := M
  simp only [am_can, am_a, am_b, am_c, Bool.and_eq_true, decide_eq_true_eq] at hcan
  obtain ⟨⟨hlen, hsum⟩, hrc⟩ := hcan
  simp only [am_a, am_b, am_pc] at hM hMet K ⊢
  have hsum2 : (((st.drop b').map (am_r b c0)).map fun v => v.category).sum ≤ 8 := by rw [am_cats]; exact hsum
  have hrm := lv_room (m := m) (pc := pc) (ls := ls) (rest := st.map (am_r b c0)) hsum2
  have hal : (st.take b').reverse.length = b' := by rw [List.length_reverse, List.length_take]; omega
  cases i
  case invokestatic idx =>
    simp only [am_ok, am_op, am_pc, am_len, am_a, am_b, Bool.and_eq_true, beq_iff_eq, decide_eq_true_eq] at hok
    obtain ⟨hd, ⟨⟨hl, hnx⟩, hC⟩, hw⟩ := hok
    subst hl
    rw [hM] at hw
    simp only [decide_eq_true_eq] at hw
    have hst := C.2.2.2.2 _ (G.2.2.2.2.2.2.1 _ _ hw rfl)
    have hpre : PreS s H (am_Pc D cl tys b c0 L xs (st.take b').reverse h) ((st.take b').reverse.map (am_r b c0)) := ⟨am_blind, fun U hU hW => ⟨rfl, by rw [hU]; exact hB.1.moved hW.alike, hN.warm hW⟩⟩
    have hll : ((st.take b').reverse.map (am_r b c0)).length = b' := by rw [List.length_map]; exact hal
    rcases am_okB (E := (pc, 3, .invokestatic idx, a, b', c', d', q)) (d := d) (mc := h2.2.1 - h.2.1) (ms := h2.2.2 - h.2.2) G.1 C hM G.2.2.2.2.2.2.1 G.2.2.2.2.2.2.2 hN hC hR with cb | ⟨host, cb⟩
    · exact am_back hm hnx hB K (va_runS C hMet ⟨cb, hst⟩ hpre rfl hll hB.2.1.1 (am_split b' st) hrm hd hf)
    · exact am_back hm hnx hB K (va_runSN C hMet ⟨cb, hst, trivial⟩ hpre rfl hll hB.2.1.1 (am_split b' st) hrm hd hf)
  case invokespecial idx =>
    simp only [am_kd, am_op, am_a] at hk0
    have ha : a ≠ 100000 := fun q => hk0 (by rw [if_pos q])
    simp only [am_ok, am_op, am_pc, am_len, am_a, am_b, Bool.and_eq_true, beq_iff_eq, decide_eq_true_eq, if_neg ha] at hok
    obtain ⟨hd, ⟨hl, hnx⟩, ⟨hb0, hC⟩, hw⟩ := hok
    subst hl
    rw [hM] at hw
    simp only [Bool.and_eq_true, decide_eq_true_eq] at hw
    obtain ⟨⟨hw1, hw2⟩, hw3⟩ := hw
    subst hw2
    have hst := C.2.2.2.2 _ (G.2.2.2.2.2.2.1 _ _ hw3 rfl)
    simp only [am_kd, am_op, am_a, if_neg ha] at hrc
    split at hrc
    · rename_i x as hx
      have hpre : PreS s H (am_Pc D cl tys b c0 L xs (st.take b').reverse h) (.ref (am_ad b c0 x) :: as.map (am_r b c0)) := ⟨am_blind, fun U hU hW => ⟨by rw [hx]; rfl, by rw [hU]; exact hB.1.moved hW.alike, hN.warm hW⟩⟩
      have hll : (as.map (am_r b c0)).length = b' - 1 := by
        rw [List.length_map]
        rw [hx] at hal
        simp only [List.length_cons] at hal
        omega
      have hsp : st.map (am_r b c0) = (as.map (am_r b c0)).reverse ++ .ref (am_ad b c0 x) :: (st.drop b').map (am_r b c0) := by
        rw [am_split b' st, hx]
        simp [am_r]
      rcases am_okB (E := (pc, 3, .invokespecial idx, a, b', c', d', q)) (d := d) (mc := h2.2.1 - h.2.1) (ms := h2.2.2 - h.2.2) G.1 C hM G.2.2.2.2.2.2.1 G.2.2.2.2.2.2.2 hN hC hR with cb | ⟨host, cb⟩
      · exact am_back hm hnx hB K (va_runI C hMet ⟨cb, hw1, hst⟩ hpre rfl hll hB.2.1.1 hsp hrm hd hf)
      · exact am_back hm hnx hB K (va_runIN C hMet ⟨cb, hw1, hst⟩ hpre rfl hll hB.2.1.1 hsp hrm hd hf)
    · cases hrc
  case invokevirtual idx =>
    simp only [am_ok, am_op, am_pc, am_len, am_a, am_b, am_c, Bool.and_eq_true, beq_iff_eq, decide_eq_true_eq] at hok
    obtain ⟨hd, ⟨⟨⟨⟨hl, hnx⟩, hb0⟩, hC⟩, hci⟩, hw⟩ := hok
    subst hl
    rw [hM] at hw
    split at hw
    · rename_i y9 x1 x2 x3 pos9 x4 Cn T9 N9 hy hcl
      cases hy
      simp only [Bool.and_eq_true, decide_eq_true_eq] at hw
      obtain ⟨⟨hw1, hw2⟩, hw3⟩ := hw
      subst hw1
      have hst := C.2.2.2.2 _ (G.2.2.2.2.2.2.1 _ _ hw2 rfl)
      have hsel := C.2.2.2.2 _ (G.2.2.2.2.2.2.1 _ _ hw3 rfl)
      simp only [am_kd, am_op] at hrc
      split at hrc
      · rename_i x as hx
        simp only [Bool.or_eq_true, beq_iff_eq] at hrc
        rcases hrc with hrc | hrc
        · cases hrc
        split at hrc
        · rename_i ci fs hfs
          simp only [beq_iff_eq] at hrc
          subst hrc
          obtain ⟨⟨g1, g2⟩, g3⟩ := hB.1.inr hfs hci
          have hpre : PreV s H y.cls (am_ad b c0 x) (am_Pc D cl tys b c0 L xs (st.take b').reverse h) (as.map (am_r b c0)) := ⟨am_blind, by rw [am_adp g1]; exact va_recv hB.1.2.2.1 (am_P1 g3) hcl (q0 := 0) rfl, fun U hU hW => ⟨by rw [hx]; rfl, by rw [hU]; exact hB.1.moved hW.alike, hN.warm hW⟩⟩
          have hll : (as.map (am_r b c0)).length = b' - 1 := by
            rw [List.length_map]
            rw [hx] at hal
            simp only [List.length_cons] at hal
            omega
          have hsp : st.map (am_r b c0) = (as.map (am_r b c0)).reverse ++ .ref (am_ad b c0 x) :: (st.drop b').map (am_r b c0) := by
            rw [am_split b' st, hx]
            simp [am_r]
          rcases am_okB (E := (pc, 3, .invokevirtual idx, a, b', ci, d', q)) (d := d) (mc := h2.2.1 - h.2.1) (ms := h2.2.2 - h.2.2) G.1 C hM G.2.2.2.2.2.2.1 G.2.2.2.2.2.2.2 hN hC hR with cb | ⟨host, cb⟩
          · exact am_back hm hnx hB K (va_runV C hMet ⟨cb, hst, hsel⟩ hpre rfl hll hB.2.1.1 hsp hrm hd hf)
          · exact am_back hm hnx hB K (va_runVN C hMet ⟨cb, hst, hsel⟩ hpre rfl hll hB.2.1.1 hsp hrm hd hf)
        · cases hrc
      · cases hrc
    · cases hw
  all_goals first | exact absurd rfl hk0 | exact absurd rfl hk1
set_option maxHeartbeats 4000000 in
theorem am_simL (G : am_Good Tb wd cl tyL df MT) (hN : am_N s) (hT : tys.map (fun q => q.2) = tyL) (C : CallFix p m c cc nL s args Tb own) (hnm : meth.name = nm) {d : Nat} (hR : d + 1 ≤ R.frames ∧ (d + 1) * 36 ≤ R.locals)
    {orc : Nat → List Value → am_H → Option (Option Value × am_H)} (ho : ∀ (z : Nat) (as : List Value) (h : am_H) (r : Option Value) (h1 : am_H), orc z as h = some (r, h1) → ∃ M, MT[z]? = some M ∧ am_Met l Tb D cl tys b c0 L xs d M as h r h1)
    (hcode : ∀ (j : Nat) (E : am_I), code[j]? = some E → am_ok wd cl tyL MT own nm cc nL ret code j E = true) {r : Option Value} {h1 : am_H} (hend : h1.2.1 ≤ h0.2.1 + R.cells ∧ h1.2.2 ≤ h0.2.2 + R.slots)
    (HR : ∀ (E : am_I) (j : Nat) (lv : am_L) (st : List Value) (H : Heap) (locs : List Loc) (ls : Array Slot) (cells slots : Nat), am_kd E = 1 → am_ok wd cl tyL MT own nm cc nL ret code j E = true → am_ret E st = some r → am_B D cl tys b c0 L xs s h0 nL h1 lv H locs ls cells slots → W p l e R s m args below meth c H locs cells slots Q (F0 m (am_pc E) ls (st.map (am_r b c0)))) :
    ∀ (k : Nat) (X : am_C), am_loop df orc code k X = some (r, h1) → am_K p l e R s m args below meth c Q D cl tys b c0 L xs h0 nL (am_pcs code) X := by
  have homono : ∀ (z : Nat) (as : List Value) (h : am_H) (r : Option Value) (h1 : am_H), orc z as h = some (r, h1) → h.2.1 ≤ h1.2.1 ∧ h.2.2 ≤ h1.2.2 := fun z as h r h1 hx => by
    obtain ⟨M, -, hm, -⟩ := ho z as h r h1 hx
    exact hm
  intro k
  induction k with
  | zero => intro X hl; cases hl
  | succ k ih =>
    intro X hl H locs ls cells slots hB
    obtain ⟨j, lv, st, h⟩ := X
    dsimp only at hB ⊢
    unfold am_loop at hl
    split at hl
    · cases hl
    · rename_i E he
      have hpc : am_pcs code j = am_pc E := by simp only [am_pcs, he]
      rw [hpc]
      split at hl
      · rename_i hk
        cases hx : am_next df E j lv st h with
        | none => rw [hx] at hl; cases hl
        | some Y =>
          rw [hx] at hl
          have hl2 : am_loop df orc code k Y = some (r, h1) := hl
          have h3 := am_loop_mono homono k Y r h1 hl2
          exact am_simN G hN hT C hnm (by have := hR.1; omega) (by have := hR.2; omega) hk (hcode j E he) hx ⟨Nat.le_trans h3.1 hend.1, Nat.le_trans h3.2 hend.2⟩ hB (ih Y hl2)
      · rename_i hk
        cases hx : am_ret E st with
        | none => rw [hx] at hl; cases hl
        | some v =>
          rw [hx] at hl
          cases hl
          exact HR E j lv st H locs ls cells slots hk (hcode j E he) hx hB
      · rename_i hk0 hk1
        split at hl
        · rename_i hcan
          cases hx : orc (am_a E) (st.take (am_b E)).reverse h with
          | none => rw [hx] at hl; cases hl
          | some v =>
            rw [hx] at hl
            obtain ⟨v, h2⟩ := v
            have hl2 : am_loop df orc code k (j + 1, lv, v.toList ++ st.drop (am_b E), h2) = some (r, h1) := hl
            have h3 := am_loop_mono homono k _ r h1 hl2
            dsimp only at h3
            obtain ⟨M, hM, hMet⟩ := ho _ _ _ _ _ hx
            have hm := hMet.1
            have b5 := hB.2.2.2.2.1
            have b6 := hB.2.2.2.2.2
            exact am_w_call G hN C hR hk0 hk1 (hcode j E he) hcan hM hMet (by omega) hB (ih _ hl2)
        · cases hl
/-- the ends of a method -/
theorem am_ends {r : Option Value} {h1 : am_H} (hx : p.tables.exec = Jvm.exec) (hb : c.code = cc) (hr : meth.sig.returnType = ret) (hlocks : meth.locks = false) {E : am_I} (hk : am_kd E = 1) (hok : am_ok wd cl tyL MT own nm cc nL ret code j E = true) (hret : am_ret E st = some r) (hB : am_B D cl tys b c0 L xs s h0 nL h1 lv H locs ls cells slots) : W p l e R s m args below meth c H locs cells slots (MQ below (am_Qc D cl tys b c0 L xs r h1) args s cells slots (fun q => c0 < q)) (F0 m (am_pc E) ls (st.map (am_r b c0))) := by
  have hq : ∀ (t : State), t.heap = H → s.WarmedH t.vm → am_Qc D cl tys b c0 L xs r h1 args s (.returned (r.map (am_r b c0))) t := fun t ht hW => ⟨rfl, by rw [ht]; exact hB.1.moved hW.alike, fun q hq => by rw [ht]; exact hB.2.2.1 q hq⟩
  obtain ⟨pc, len, i, a, b', c', d', q⟩ := E
  unfold am_ret at hret
  split at hret
  · rename_i x hop
    simp only [am_op] at hop
    subst hop
    split at hret
    · rename_i hft
      cases hret
      simp only [am_ok, am_op, am_pc, am_len, am_a, am_d, Bool.and_eq_true, decide_eq_true_eq] at hok hft
      obtain ⟨hd, hl, hty⟩ := hok
      subst hl
      split at hty
      · rename_i ty
        simp only [decide_eq_true_eq] at hty
        rw [← hty] at hft
        exact W.zret hx hb hr (am_ft_ok (b := b) (c0 := c0) hft).1 hq hB.2.2.2.1 hd
      · cases hty
    · cases hret
  · rename_i x hop
    simp only [am_op] at hop
    subst hop
    cases hret
    simp only [am_ok, am_op, am_pc, am_len, Bool.and_eq_true, decide_eq_true_eq] at hok
    obtain ⟨hd, hl, hty⟩ := hok
    subst hl
    exact W.lret hx hb (hr.trans hty) hq hB.2.2.2.1 hd
  · rename_i x hop
    simp only [am_op] at hop
    subst hop
    cases hret
    simp only [am_ok, am_op, am_pc, am_len, Bool.and_eq_true, decide_eq_true_eq] at hok
    obtain ⟨hd, hl, hty⟩ := hok
    subst hl
    split at hty
    · exact W.aret hx hb hr (Or.inl ⟨_, rfl⟩) (Or.inr ⟨_, rfl⟩) hq hB.2.2.2.1 hd
    · exact W.aret hx hb hr (Or.inr ⟨_, rfl⟩) (Or.inr ⟨_, rfl⟩) hq hB.2.2.2.1 hd
    · cases hty
  · rename_i hop
    simp only [am_op] at hop
    subst hop
    cases hret
    simp only [am_ok, am_op, am_pc, am_len, Bool.and_eq_true, decide_eq_true_eq] at hok
    obtain ⟨hd, hl, hty⟩ := hok
    subst hl
    split at hty
    · exact W.aret hx hb hr (Or.inl ⟨_, rfl⟩) (Or.inl rfl) hq hB.2.2.2.1 hd
    · exact W.aret hx hb hr (Or.inr ⟨_, rfl⟩) (Or.inl rfl) hq hB.2.2.2.1 hd
    · cases hty
  · rename_i hop
    simp only [am_op] at hop
    subst hop
    cases hret
    simp only [am_ok, am_op, am_pc, am_len, Bool.and_eq_true, decide_eq_true_eq] at hok
    obtain ⟨hd, hl, hty⟩ := hok
    subst hl
    exact W.vret hx hb (hr.trans hty) hq hB.2.2.2.1 hd
  · cases hret
end AMT
theorem am_mok_code {Tb : List Jvm.Cond} {wd : Nat → Option Jvm.Cond} (hwd : ∀ (q : Nat) (w : Jvm.Cond), wd q = some w → am_hard w = false → w ∈ Tb) {cl : List vw_C} {tyL : List FieldType} {MT : List am_M} {y : MethodName} {bytes : ByteArray} {maxL : Nat} {ret : Option FieldType} {pos : Nat × Nat × Nat × Nat} {code : List am_I} (h : am_mok wd cl tyL MT (y, bytes, maxL, ret, pos, code) = true) : plainName y.cls = true ∧ Jvm.Cond.code y bytes maxL ret ∈ Tb ∧ maxL ≤ 17 ∧ am_pcs code 0 = 0 ∧ ∀ (j : Nat) (E : am_I), code[j]? = some E → am_ok wd cl tyL MT y.cls y.name bytes maxL ret code j E = true := by
  simp only [am_mok, Bool.and_eq_true, decide_eq_true_eq] at h
  obtain ⟨⟨⟨⟨h1, h2⟩, h3⟩, h4⟩, h5⟩ := h
  refine ⟨h1, hwd _ _ h2 rfl, h3, h4, fun j E hE => ?_⟩
  have h6 := List.all_eq_true.mp h5 j (List.mem_range.mpr (List.getElem?_eq_some_iff.mp hE).1)
  rw [hE] at h6
  exact h6
set_option maxHeartbeats 4000000 in
/-- EVERY RUN OF THE NUMBERED MACHINE IS A CONTRACT OF THE REAL ONE -/
theorem am_sim {Tb : List Jvm.Cond} {wd : Nat → Option Jvm.Cond} {cl : List vw_C} {tyL : List FieldType} {df : Nat → List Value} {MT : List am_M} (G : am_Good Tb wd cl tyL df MT) (l : Launch) {D : va_G} {tys : List (ClassId × FieldType)} {b c0 L : Nat} {xs : Nat → Int32} (hT : tys.map (fun q => q.2) = tyL) (F : Nat) :
    ∀ (d z : Nat) (as : List Value) (h : am_H) (r : Option Value) (h1 : am_H), am_call df MT d F z as h = some (r, h1) → ∃ M, MT[z]? = some M ∧ am_Met l Tb D cl tys b c0 L xs d M as h r h1 := by
  intro d
  induction d with
  | zero => intro z as h r h1 hc; cases hc
  | succ d ih =>
    intro z as h r h1 hc
    unfold am_call at hc
    split at hc
    · cases hc
    · rename_i M hM
      split at hc
      · rename_i hlen
        obtain ⟨y, bytes, maxL, ret, pos, code⟩ := M
        dsimp only at hlen hc
        have hmono := am_loop_mono (fun z as h r h1 hx => by
          obtain ⟨M, -, hm, -⟩ := ih z as h r h1 hx
          exact hm) F _ r h1 hc
        dsimp only at hmono
        obtain ⟨g1, g2, g3, g4, g5⟩ := am_mok_code G.2.2.2.2.2.2.1 (G.2.2.1 z _ hM)
        refine ⟨_, hM, hmono, ?_⟩
        refine Met.ofW (cc := bytes) (maxL := maxL) (ret := ret) g1 rfl ?_
        intro p e s m args below meth c s₁ BB hml hv
        obtain ⟨rfl, hRR, hN⟩ := hv
        have hts := atoms_spec (ws := am_wsM Tb (y, bytes, maxL, ret, pos, code)) BB.pre
        have hts2 : ∀ w ∈ Tb, w.before (as.map (am_r b c0)).toArray s = true := fun w hw => hts w (List.mem_cons_of_mem _ hw)
        have hown : s.vm.findClass y.cls = some m.cls := findClass_of_methodNamed BB.named
        have hname : meth.name = y.name := (name_of_methodNamed BB.named BB.method).1
        have hl0 := lv_entry (as.map (am_r b c0)) (n := maxL) (by rw [am_sl_len]; exact hlen)
        rw [← am_rl_args] at hl0
        rw [lg_entry_eq]
        have hB0 : am_B D cl tys b c0 L xs s h maxL h (lv_args 0 as) s.heap [] _ 0 0 := ⟨hRR, hl0, fun _ _ => rfl, fun x hx => (by cases hx), rfl, rfl⟩
        have hK := am_simL (Q := MQ below (am_Qc D cl tys b c0 L xs r h1) (as.map (am_r b c0)).toArray s (h1.2.1 - h.2.1) (h1.2.2 - h.2.2) (fun q => c0 < q)) (below := below) (e := e) (R := (headSpec (am_wsM Tb (y, bytes, maxL, ret, pos, code)) (am_rm (d + 1) (h1.2.1 - h.2.1) (h1.2.2 - h.2.2))).room) (h0 := h) G hN hT ⟨BB.exec, BB.bytes, hml, hown, hts2⟩ hname (d := d) ⟨Nat.le_refl _, Nat.le_refl _⟩ ih g5 (r := r) (h1 := h1) ⟨by show h1.2.1 ≤ h.2.1 + (h1.2.1 - h.2.1); omega, by show h1.2.2 ≤ h.2.2 + (h1.2.2 - h.2.2); omega⟩ (fun E j lv st H locs ls cells slots hk hok hret hB9 => by
          have e5 := hB9.2.2.2.2.1
          have e6 := hB9.2.2.2.2.2
          have w := am_ends (l := l) (e := e) (m := m) (R := (headSpec (am_wsM Tb (y, bytes, maxL, ret, pos, code)) (am_rm (d + 1) (h1.2.1 - h.2.1) (h1.2.2 - h.2.2))).room) (below := below) (args := (as.map (am_r b c0)).toArray) BB.exec BB.bytes BB.returns BB.notSynchronized hk hok hret hB9
          rw [show cells = h1.2.1 - h.2.1 by omega, show slots = h1.2.2 - h.2.2 by omega] at w ⊢
          exact w) F _ hc
        have hk9 := hK _ _ _ _ _ hB0
        dsimp only at hk9
        rw [g4] at hk9
        exact hk9
      · cases hc
