/-! The law's start, as the claim has it. -/
theorem am_okN {wd : Nat → Option Jvm.Cond} {cl : List vw_C} {tyL : List FieldType} {MT : List am_M} {own nm nm' : String} {cc : ByteArray} {nL : Nat} {ret : Option FieldType} {code : List am_I} {j : Nat} {e : am_I} (h : (match am_op e with | .putfield _ => false | _ => true) = true) : am_ok wd cl tyL MT own nm cc nL ret code j e = am_ok wd cl tyL MT own nm' cc nL ret code j e := by
  obtain ⟨pc, len, i, a, b', c', d', q⟩ := e
  cases i <;> first | rfl | (exact Bool.noConfusion (show false = true from h))
set_option maxRecDepth 100000 in
theorem law_nopf : (c_law.all (fun e => match am_op e with | .putfield _ => false | _ => true)) = true := by decide +kernel
set_option maxHeartbeats 4000000 in
theorem whole_start {p : Program} {e : Env} {s : State} {m : MethodId} {below : List Frame} {meth : Method} {c : Code} (l : Launch) {b L : Nat} {xs : Nat → Int32} (hL : L ≤ 3072) (C0 : lw_At p s m meth c b L xs) : W p l e room_1 s m #[Value.ref b] below meth c s.heap [] 0 0 (lw_Z below #[Value.ref b] s) (entryFrame m ([Value.ref b] : List Value).toArray 4) := by
  obtain ⟨hx, hb, hr, hml, hown, hts, hX, hbl, hlocks, hgv⟩ := id C0
  have hts9 : ∀ w ∈ am_Tb, w.before #[Value.ref b] s = true := fun w hw => hts w (List.mem_filter.mp hw).1
  have hN : am_N s := fun w hw => am_hard_eq (am_Nd_h w hw) rfl (hts w (of_decide_eq_true (List.all_eq_true.mp ok_nd w hw)))
  have arr : ∀ ty, Jvm.Cond.arrayClass ty ∈ lw_tbl → ∃ cA, ArrOfT s cA ty ∧ s.vm.findClass ("[" ++ ty.toString) = some cA := fun ty h => by
    obtain ⟨cA, kA, comp, h1, h2, h3⟩ := Cond.arrayClass_spec (hts _ h)
    exact ⟨cA, fun n z => ⟨fun k h => (by cases h), kA, h2, comp, h3⟩, h1⟩
  obtain ⟨cI, aI, rI⟩ := arr .int ok_aI
  obtain ⟨cJ, aJ, rJ⟩ := arr .long ok_aJ
  obtain ⟨cZ, aZ, rZ⟩ := arr .boolean ok_aZ
  obtain ⟨comp, cA, kA, hcomp, -, hkA, hkindA, hnameA⟩ := arrayOverA_spec (hts _ ok_aO)
  have kn : ∀ k : Nat, ∃ (c : ClassId) (iS : Nat → Nat), ∀ q, am_cl[k]? = some q → u_Kn s q.1 q.2.1 q.2.2 c iS := fun k => by
    cases hq : am_cl[k]? with
    | none => exact ⟨cI, fun _ => 0, fun q h => by cases h⟩
    | some q =>
      obtain ⟨Cn, T, N⟩ := q
      have o := ok_cl k Cn T N hq
      obtain ⟨c, iS, h⟩ := u_known (C := Cn) (T := T) (N := N) (n := N) hts9 o.1 (hts9 _ o.2.2.2.1)
      exact ⟨c, iS, fun q h2 => by cases h2; exact h⟩
  have hK : va_K (fun k => Classical.choose (kn k), fun k => Classical.choose (Classical.choose_spec (kn k))) am_cl [(cI, .int), (cJ, .long), (cI, .int), (cZ, .boolean), (cA, .array .int)] s := by
    refine ⟨fun k q hq => Classical.choose_spec (Classical.choose_spec (kn k)) q hq, fun k q hq => ?_⟩
    match k, hq with
    | 0, hq => cases hq; exact ⟨aI, rI⟩
    | 1, hq => cases hq; exact ⟨aJ, rJ⟩
    | 2, hq => cases hq; exact ⟨aI, rI⟩
    | 3, hq => cases hq; exact ⟨aZ, rZ⟩
    | 4, hq => cases hq; exact ⟨fun n z => ⟨fun k h => (by cases h), kA, hkA, comp, hkindA⟩, hnameA⟩
    | k + 5, hq => simp at hq
  have hT : ([(cI, .int), (cJ, .long), (cI, .int), (cZ, .boolean), (cA, .array .int)] : List (ClassId × FieldType)).map (fun q => q.2) = am_tyL := rfl
  generalize ([(cI, .int), (cJ, .long), (cI, .int), (cZ, .boolean), (cA, .array .int)] : List (ClassId × FieldType)) = tys at *
  generalize ((fun k => Classical.choose (kn k), fun k => Classical.choose (Classical.choose_spec (kn k))) : va_G) = D at *
  clear arr kn aI rI aJ rJ aZ rZ hcomp hkA hkindA hnameA
  have eG : (fun j : Nat => iI ((xs ((j : Int)).toNat).toInt)) = xs := funext (fun j => by
    show Int32.ofInt (xs ((j : Int)).toNat).toInt = xs j
    rw [Int32.ofInt_toInt, Int.toNat_natCast])
  obtain ⟨h0, e01, e02, e03⟩ : ∃ h0 : am_H, h0.1 = (fun a => if a = 0 then .inl (0, L, .inl xs) else am_z) ∧ h0.2.1 = 1 ∧ h0.2.2 = 0 := ⟨(fun a => if a = 0 then .inl (0, L, .inl xs) else am_z, 1, 0), rfl, rfl, rfl⟩
  have e00 : h0.1 0 = .inl (0, L, .inl xs) := by
    rw [e01]
    rfl
  obtain ⟨F, r, h1, hl, hr1, hh⟩ := law_go L hL (fun j : Int => (xs j.toNat).toInt) (fun j => ⟨Int32.le_toInt _, Int32.toInt_lt _⟩) h0 e02 (by
    rw [e00, eG])
  subst hr1
  have hl0 := lv_entry ([.ref b]) (n := 4) (Nat.le_of_ble_eq_true rfl)
  rw [lg_entry_eq]
  generalize (lg_sl ([.ref b]) ++ List.replicate (4 - (lg_sl ([.ref b])).length) Slot.unset).toArray = ls at hl0 ⊢
  have hB0 : am_B D am_cl tys b (s.heap.size - 1) L xs s h0 4 h0 [(0, .ref 0)] s.heap [] ls 0 0 := by
    refine ⟨⟨⟨by omega, by omega, by omega⟩, ⟨e00, hX⟩, hK, fun a ha => ?_, fun a h1 h2 => by omega⟩, hl0, fun _ _ => rfl, fun x hx => (by cases hx), by omega, by omega⟩
    rw [e01]
    show (if a = 0 then _ else am_z) = am_z
    rw [if_neg (by omega)]
  have c1 : h1.2.1 = 150 := by rw [hh]
  have c2 : h1.2.2 = h0.2.2 + 228072 := by rw [hh]
  have hcode : ∀ (j : Nat) (E : am_I), c_law[j]? = some E → am_ok am_wd am_cl am_tyL am_MT "TypeStartsLaw" meth.name code 4 (some .boolean) c_law j E = true := fun j E he => by
    have a := ok_law j E he
    have n := List.all_eq_true.mp law_nopf E (List.mem_of_getElem? he)
    rw [am_okN (nm' := "law") n]
    exact a
  have KK := am_simL (p := p) (e := e) (m := m) (meth := meth) (c := c) (below := below) (args := #[Value.ref b]) (Q := lw_Z below #[Value.ref b] s) (R := room_1) (h0 := h0) (b := b) (c0 := s.heap.size - 1) (L := L) (xs := xs) (D := D) ok_all hN hT ⟨hx, hb, hml, hown, hts9⟩ rfl (d := 9) ⟨Nat.le_of_ble_eq_true rfl, Nat.le_of_ble_eq_true rfl⟩ (fun z as h r h1 => am_sim ok_all l hT F 9 z as h r h1) hcode (r := some (.int (iI 1))) (h1 := h1) ⟨by show h1.2.1 ≤ h0.2.1 + 600000; omega, by show h1.2.2 ≤ h0.2.2 + 7302250; omega⟩ (fun E j lv st H locs ls cells slots hk hok hret hB9 => by
    have e5 : h1.2.1 = h0.2.1 + cells := hB9.2.2.2.2.1
    have e6 : h1.2.2 = h0.2.2 + slots := hB9.2.2.2.2.2
    have hlo := hB9.2.2.2.1
    obtain ⟨pc, len, i, a, b', c', d', q⟩ := E
    unfold am_ret at hret
    split at hret
    · rename_i x hop
      simp only [am_op] at hop
      subst hop
      split at hret
      · have hx1 : x = iI 1 := by
          have z := Option.some.inj (Option.some.inj hret)
          exact Value.int.inj z
        subst hx1
        simp only [am_ok, am_op, am_pc, am_len, Bool.and_eq_true, decide_eq_true_eq] at hok
        obtain ⟨hd, hl9, -⟩ := hok
        subst hl9
        exact va_forget (fun q hq => by have := hlo q hq; omega) (W.widen (k := 600000) (n := 7302250) (by omega) (by omega) (lw_ret hx hb hr hlocks hd))
      · cases hret
    all_goals cases hret) F (0, [(0, .ref 0)], [], _) hl
  exact KK _ _ _ _ _ hB0
