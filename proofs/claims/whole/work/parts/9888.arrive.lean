theorem mt_Search_arrive : am_MT[80]? = some m_Search_arrive := rfl
theorem c_Search_arrive_0 : c_Search_arrive[0]? = some (0, 1, .aload_n 0, 0, 0, 0, 0, 0, []) := Eq.trans rfl rfl
theorem c_Search_arrive_1 : c_Search_arrive[1]? = some (1, 3, .getfield 12, 5, 0, 0, 0, 299, []) := Eq.trans rfl rfl
theorem c_Search_arrive_2 : c_Search_arrive[2]? = some (4, 1, .aload_n 1, 1, 0, 0, 0, 0, []) := Eq.trans rfl rfl
theorem c_Search_arrive_3 : c_Search_arrive[3]? = some (5, 3, .invokevirtual 75, 81, 2, 6, 0, 639, []) := Eq.trans rfl rfl
theorem c_Search_arrive_4 : c_Search_arrive[4]? = some (8, 1, .istore_n 2, 2, 0, 0, 0, 0, []) := Eq.trans rfl rfl
theorem c_Search_arrive_5 : c_Search_arrive[5]? = some (9, 1, .iload_n 2, 2, 0, 0, 0, 0, []) := Eq.trans rfl rfl
theorem c_Search_arrive_6 : c_Search_arrive[6]? = some (10, 1, .iconst (-1), 0, 0, 0, 0, 0, []) := Eq.trans rfl rfl
theorem c_Search_arrive_7 : c_Search_arrive[7]? = some (11, 3, .if_icmp .ne 5, 10, 0, 0, 0, 0, []) := Eq.trans rfl rfl
theorem c_Search_arrive_8 : c_Search_arrive[8]? = some (14, 1, .iconst 1, 0, 0, 0, 0, 0, []) := Eq.trans rfl rfl
theorem c_Search_arrive_9 : c_Search_arrive[9]? = some (15, 1, .ireturn, 0, 0, 0, 3, 0, []) := Eq.trans rfl rfl
theorem c_Search_arrive_10 : c_Search_arrive[10]? = some (16, 1, .iload_n 2, 2, 0, 0, 0, 0, []) := Eq.trans rfl rfl
theorem c_Search_arrive_11 : c_Search_arrive[11]? = some (17, 2, .bipush (-4), 0, 0, 0, 0, 0, []) := Eq.trans rfl rfl
theorem c_Search_arrive_12 : c_Search_arrive[12]? = some (19, 3, .if_icmp .ne 5, 15, 0, 0, 0, 0, []) := Eq.trans rfl rfl
theorem c_Search_arrive_13 : c_Search_arrive[13]? = some (22, 1, .iconst 0, 0, 0, 0, 0, 0, []) := Eq.trans rfl rfl
theorem c_Search_arrive_14 : c_Search_arrive[14]? = some (23, 1, .ireturn, 0, 0, 0, 3, 0, []) := Eq.trans rfl rfl
theorem c_Search_arrive_15 : c_Search_arrive[15]? = some (24, 1, .aload_n 1, 1, 0, 0, 0, 0, []) := Eq.trans rfl rfl
theorem c_Search_arrive_16 : c_Search_arrive[16]? = some (25, 3, .invokevirtual 79, 57, 1, 3, 0, 670, []) := Eq.trans rfl rfl
theorem c_Search_arrive_17 : c_Search_arrive[17]? = some (28, 1, .istore_n 3, 3, 0, 0, 0, 0, []) := Eq.trans rfl rfl
theorem c_Search_arrive_18 : c_Search_arrive[18]? = some (29, 1, .iload_n 3, 3, 0, 0, 0, 0, []) := Eq.trans rfl rfl
theorem c_Search_arrive_19 : c_Search_arrive[19]? = some (30, 3, .ifCond .ne 23, 30, 0, 0, 0, 0, []) := Eq.trans rfl rfl
theorem c_Search_arrive_20 : c_Search_arrive[20]? = some (33, 1, .aload_n 0, 0, 0, 0, 0, 0, []) := Eq.trans rfl rfl
theorem c_Search_arrive_21 : c_Search_arrive[21]? = some (34, 3, .getfield 21, 5, 1, 0, 0, 301, []) := Eq.trans rfl rfl
theorem c_Search_arrive_22 : c_Search_arrive[22]? = some (37, 1, .aload_n 1, 1, 0, 0, 0, 0, []) := Eq.trans rfl rfl
theorem c_Search_arrive_23 : c_Search_arrive[23]? = some (38, 3, .invokevirtual 83, 88, 1, 3, 0, 671, []) := Eq.trans rfl rfl
theorem c_Search_arrive_24 : c_Search_arrive[24]? = some (41, 1, .aload_n 0, 0, 0, 0, 0, 0, []) := Eq.trans rfl rfl
theorem c_Search_arrive_25 : c_Search_arrive[25]? = some (42, 3, .getfield 36, 5, 6, 0, 0, 307, []) := Eq.trans rfl rfl
theorem c_Search_arrive_26 : c_Search_arrive[26]? = some (45, 1, .aload_n 0, 0, 0, 0, 0, 0, []) := Eq.trans rfl rfl
theorem c_Search_arrive_27 : c_Search_arrive[27]? = some (46, 3, .getfield 25, 5, 3, 0, 0, 304, []) := Eq.trans rfl rfl
theorem c_Search_arrive_28 : c_Search_arrive[28]? = some (49, 3, .invokevirtual 87, 89, 4, 7, 0, 676, []) := Eq.trans rfl rfl
theorem c_Search_arrive_29 : c_Search_arrive[29]? = some (52, 1, .ireturn, 0, 0, 0, 3, 0, []) := Eq.trans rfl rfl
theorem c_Search_arrive_30 : c_Search_arrive[30]? = some (53, 1, .aload_n 0, 0, 0, 0, 0, 0, []) := Eq.trans rfl rfl
theorem c_Search_arrive_31 : c_Search_arrive[31]? = some (54, 3, .getfield 25, 5, 3, 0, 0, 304, []) := Eq.trans rfl rfl
theorem c_Search_arrive_32 : c_Search_arrive[32]? = some (57, 2, .bipush 66, 0, 0, 0, 0, 0, []) := Eq.trans rfl rfl
theorem c_Search_arrive_33 : c_Search_arrive[33]? = some (59, 3, .if_icmp .gt 33, 52, 0, 0, 0, 0, []) := Eq.trans rfl rfl
theorem c_Search_arrive_34 : c_Search_arrive[34]? = some (62, 1, .aload_n 0, 0, 0, 0, 0, 0, []) := Eq.trans rfl rfl
theorem c_Search_arrive_35 : c_Search_arrive[35]? = some (63, 3, .getfield 29, 5, 4, 0, 0, 305, []) := Eq.trans rfl rfl
theorem c_Search_arrive_36 : c_Search_arrive[36]? = some (66, 1, .aload_n 0, 0, 0, 0, 0, 0, []) := Eq.trans rfl rfl
theorem c_Search_arrive_37 : c_Search_arrive[37]? = some (67, 3, .getfield 25, 5, 3, 0, 0, 304, []) := Eq.trans rfl rfl
theorem c_Search_arrive_38 : c_Search_arrive[38]? = some (70, 1, .iload_n 2, 2, 0, 0, 0, 0, []) := Eq.trans rfl rfl
theorem c_Search_arrive_39 : c_Search_arrive[39]? = some (71, 1, .iastore, 0, 0, 0, 0, 0, []) := Eq.trans rfl rfl
theorem c_Search_arrive_40 : c_Search_arrive[40]? = some (72, 1, .aload_n 0, 0, 0, 0, 0, 0, []) := Eq.trans rfl rfl
theorem c_Search_arrive_41 : c_Search_arrive[41]? = some (73, 3, .getfield 33, 5, 5, 0, 0, 306, []) := Eq.trans rfl rfl
theorem c_Search_arrive_42 : c_Search_arrive[42]? = some (76, 1, .aload_n 0, 0, 0, 0, 0, 0, []) := Eq.trans rfl rfl
theorem c_Search_arrive_43 : c_Search_arrive[43]? = some (77, 3, .getfield 25, 5, 3, 0, 0, 304, []) := Eq.trans rfl rfl
theorem c_Search_arrive_44 : c_Search_arrive[44]? = some (80, 1, .iload_n 3, 3, 0, 0, 0, 0, []) := Eq.trans rfl rfl
theorem c_Search_arrive_45 : c_Search_arrive[45]? = some (81, 1, .iastore, 0, 0, 0, 0, 0, []) := Eq.trans rfl rfl
theorem c_Search_arrive_46 : c_Search_arrive[46]? = some (82, 1, .aload_n 0, 0, 0, 0, 0, 0, []) := Eq.trans rfl rfl
theorem c_Search_arrive_47 : c_Search_arrive[47]? = some (83, 1, .dup, 0, 0, 0, 0, 0, []) := Eq.trans rfl rfl
theorem c_Search_arrive_48 : c_Search_arrive[48]? = some (84, 3, .getfield 25, 5, 3, 0, 0, 304, []) := Eq.trans rfl rfl
theorem c_Search_arrive_49 : c_Search_arrive[49]? = some (87, 1, .iconst 1, 0, 0, 0, 0, 0, []) := Eq.trans rfl rfl
theorem c_Search_arrive_50 : c_Search_arrive[50]? = some (88, 1, .iadd, 0, 0, 0, 0, 0, []) := Eq.trans rfl rfl
theorem c_Search_arrive_51 : c_Search_arrive[51]? = some (89, 3, .putfield 25, 5, 3, 0, 0, 304, []) := Eq.trans rfl rfl
theorem c_Search_arrive_52 : c_Search_arrive[52]? = some (92, 1, .iconst 1, 0, 0, 0, 0, 0, []) := Eq.trans rfl rfl
theorem c_Search_arrive_53 : c_Search_arrive[53]? = some (93, 1, .ireturn, 0, 0, 0, 3, 0, []) := Eq.trans rfl rfl
/-! The class's cells of a search beside the one function. -/
def se_at (h : am_H) (s : Nat) (dp : Int) (Tr Un W : Int → Int) : Prop :=
  0 < s ∧ h.1 s = .inr (5, se_fs s dp) ∧ h.1 (s + 9) = .inl (0, 67, .inl (fun j : Nat => iI (Tr j))) ∧ h.1 (s + 10) = .inl (0, 67, .inl (fun j : Nat => iI (Un j))) ∧ h.1 (s + 11) = .inl (0, 67, .inl (fun j : Nat => iI (W j)))
def cz_at (h : am_H) (s : Nat) (dp n c : Int) (Tr Un W L G P O Ln V : Int → Int) : Prop := se_at h s dp Tr Un W ∧ po_at h (s + 1) n L G ∧ ou_at h (s + 4) c P O Ln V
def cz_to (h : am_H) (s : Nat) (dp n c : Int) (Tr Un W L G P O Ln V : Int → Int) (h1 : am_H) : Prop := cz_at h1 s dp n c Tr Un W L G P O Ln V ∧ (∀ a, (a < s ∨ s + 11 < a) → h1.1 a = h.1 a) ∧ h1.2 = h.2
theorem se_at.fr {h h1 : am_H} {s : Nat} {dp : Int} {Tr Un W : Int → Int} (H : se_at h s dp Tr Un W) (hf : ∀ a, (a = s ∨ s + 9 ≤ a ∧ a ≤ s + 11) → h1.1 a = h.1 a) : se_at h1 s dp Tr Un W := by
  obtain ⟨s0, a, b, c, d⟩ := H
  exact ⟨s0, (hf _ (by omega)).trans a, (hf _ (by omega)).trans b, (hf _ (by omega)).trans c, (hf _ (by omega)).trans d⟩
theorem po_at.fr {h h1 : am_H} {u : Nat} {c : Int} {L G : Int → Int} (H : po_at h u c L G) (hf : ∀ a, u ≤ a → a ≤ u + 2 → h1.1 a = h.1 a) : po_at h1 u c L G := by
  obtain ⟨u0, a, b, c⟩ := H
  exact ⟨u0, (hf _ (by omega) (by omega)).trans a, (hf _ (by omega) (by omega)).trans b, (hf _ (by omega) (by omega)).trans c⟩
theorem ou_at.fr {h h1 : am_H} {y : Nat} {c : Int} {P O Ln V : Int → Int} (H : ou_at h y c P O Ln V) (hf : ∀ a, y ≤ a → a ≤ y + 4 → h1.1 a = h.1 a) : ou_at h1 y c P O Ln V := by
  obtain ⟨y0, a, b, c, d, e⟩ := H
  exact ⟨y0, (hf _ (by omega) (by omega)).trans a, (hf _ (by omega) (by omega)).trans b, (hf _ (by omega) (by omega)).trans c, (hf _ (by omega) (by omega)).trans d, (hf _ (by omega) (by omega)).trans e⟩
theorem ru_at.fr {h h1 : am_H} {p q w : Nat} {n m : Int} {X : Nat → Int → Int} {S : Int → Int → Int} (H : ru_at h p q w n m X S) (hf : ∀ a, p ≤ a → a ≤ p + 15 → h1.1 a = h.1 a) : ru_at h1 p q w n m X S := by
  obtain ⟨p0, a, b, c, d, e⟩ := H
  exact ⟨p0, (hf _ (by omega) (by omega)).trans a, (hf _ (by omega) (by omega)).trans b, fun k k1 k2 k3 => (hf _ (by omega) (by omega)).trans (c k k1 k2 k3), (hf _ (by omega) (by omega)).trans d, fun z z1 z2 => (hf _ (by omega) (by omega)).trans (e z z1 z2)⟩
theorem en_at.mv {h h1 : am_H} {p q w : Nat} {N : Int} {A : Nat → Int → Int} {R : Nat → Int → Int → Int} {M : Int} {B : Nat → Int → Int} {K : Nat → Int → Int → Int} (H : en_at h p q w N A R M B K) (hf : ∀ a, a ≤ w + 52 → h1.1 a = h.1 a) : en_at h1 p q w N A R M B K :=
  ⟨H.1.fr (fun a _ b => hf a (by have := H.2.2; omega)), H.2.1.fr (fun a _ b => hf a (by omega)), H.2.2⟩
theorem cz_at.rf {h : am_H} {s : Nat} {dp n c : Int} {Tr Un W L G P O Ln V : Int → Int} (H : cz_at h s dp n c Tr Un W L G P O Ln V) : cz_to h s dp n c Tr Un W L G P O Ln V h := ⟨H, fun _ _ => rfl, rfl⟩
theorem cz_to.tr {h h1 h2 : am_H} {s : Nat} {dp n c dp1 n1 c1 : Int} {Tr Un W L G P O Ln V Tr1 Un1 W1 L1 G1 P1 O1 Ln1 V1 : Int → Int} (H : cz_to h s dp n c Tr Un W L G P O Ln V h1) (H1 : cz_to h1 s dp1 n1 c1 Tr1 Un1 W1 L1 G1 P1 O1 Ln1 V1 h2) : cz_to h s dp1 n1 c1 Tr1 Un1 W1 L1 G1 P1 O1 Ln1 V1 h2 := ⟨H1.1, fun a ha => (H1.2.1 a ha).trans (H.2.1 a ha), H1.2.2.trans H.2.2⟩
theorem cz_to.dp {h h1 : am_H} {s : Nat} {dp n c dp1 : Int} {Tr Un W L G P O Ln V : Int → Int} (H : cz_to h s dp n c Tr Un W L G P O Ln V h1) : cz_to h s dp1 n c Tr Un W L G P O Ln V (am_put h1 s (.inr (5, se_fs s dp1))) := by
  obtain ⟨⟨⟨s0, a, b, c, d⟩, po, ou⟩, hf, h2⟩ := H
  exact ⟨⟨⟨s0, am_up_hit, (am_up_miss (by omega)).trans b, (am_up_miss (by omega)).trans c, (am_up_miss (by omega)).trans d⟩, po.fr (fun x _ _ => am_up_miss (by omega)), ou.fr (fun x _ _ => am_up_miss (by omega))⟩, fun x hx => (am_up_miss (by omega)).trans (hf x hx), h2⟩
theorem cz_to.tl {h h1 : am_H} {s : Nat} {dp n c : Int} {Tr Un W L G P O Ln V T1 : Int → Int} (H : cz_to h s dp n c Tr Un W L G P O Ln V h1) : cz_to h s dp n c T1 Un W L G P O Ln V (am_put h1 (s + 9) (.inl (0, 67, .inl (fun j : Nat => iI (T1 j))))) := by
  obtain ⟨⟨⟨s0, a, b, c, d⟩, po, ou⟩, hf, h2⟩ := H
  exact ⟨⟨⟨s0, (am_up_miss (by omega)).trans a, am_up_hit, (am_up_miss (by omega)).trans c, (am_up_miss (by omega)).trans d⟩, po.fr (fun x _ _ => am_up_miss (by omega)), ou.fr (fun x _ _ => am_up_miss (by omega))⟩, fun x hx => (am_up_miss (by omega)).trans (hf x hx), h2⟩
theorem cz_to.ut {h h1 : am_H} {s : Nat} {dp n c : Int} {Tr Un W L G P O Ln V U1 : Int → Int} (H : cz_to h s dp n c Tr Un W L G P O Ln V h1) : cz_to h s dp n c Tr U1 W L G P O Ln V (am_put h1 (s + 10) (.inl (0, 67, .inl (fun j : Nat => iI (U1 j))))) := by
  obtain ⟨⟨⟨s0, a, b, c, d⟩, po, ou⟩, hf, h2⟩ := H
  exact ⟨⟨⟨s0, (am_up_miss (by omega)).trans a, (am_up_miss (by omega)).trans b, am_up_hit, (am_up_miss (by omega)).trans d⟩, po.fr (fun x _ _ => am_up_miss (by omega)), ou.fr (fun x _ _ => am_up_miss (by omega))⟩, fun x hx => (am_up_miss (by omega)).trans (hf x hx), h2⟩
theorem cz_to.wy {h h1 : am_H} {s : Nat} {dp n c : Int} {Tr Un W L G P O Ln V W1 : Int → Int} (H : cz_to h s dp n c Tr Un W L G P O Ln V h1) : cz_to h s dp n c Tr Un W1 L G P O Ln V (am_put h1 (s + 11) (.inl (0, 67, .inl (fun j : Nat => iI (W1 j))))) := by
  obtain ⟨⟨⟨s0, a, b, c, d⟩, po, ou⟩, hf, h2⟩ := H
  exact ⟨⟨⟨s0, (am_up_miss (by omega)).trans a, (am_up_miss (by omega)).trans b, (am_up_miss (by omega)).trans c, am_up_hit⟩, po.fr (fun x _ _ => am_up_miss (by omega)), ou.fr (fun x _ _ => am_up_miss (by omega))⟩, fun x hx => (am_up_miss (by omega)).trans (hf x hx), h2⟩
def cs_pk (A : sst) (L : Int → Int) : Prop := ∀ p : Int, 0 ≤ p ∧ p < a_n A → ∃ Y T, ru_ok (a_pt A p) Y T ∧ L (p * 3) = t3 Y 0 ∧ L (p * 3 + 1) = t3 Y 3 ∧ L (p * 3 + 2) = h3 Y
def cs_oc (I : Nat → Int) (F : Nat → Int → Int) (A : sst) (P O Ln V : Int → Int) : Prop :=
  (∀ i : Int, 0 ≤ i ∧ i < a_c A → P i = a_P I F A i ∧ O i = a_od A i ∧ Ln i = a_ln A (a_at A i) ∧ ∀ k : Int, 0 ≤ k ∧ k < a_ln A (a_at A i) → V (96 * i + k) = a_wa A (a_at A i) k) ∧
  (∀ j, 0 ≤ P j ∧ P j < 9223372036854775808) ∧ (∀ g, 0 ≤ V g ∧ V g ≤ 3) ∧ ∀ g : Int, 96 * a_c A ≤ g → V g = 0
def cs_tr (I : Nat → Int) (F : Nat → Int → Int) (A : sst) (Tr Un : Int → Int) : List (Int × Int) → Prop
  | [] => True
  | e :: rest => Tr rest.length = e.1 ∧ Un rest.length = ub I F (a_pt A e.1) e.2 ∧ cs_tr I F A Tr Un rest
def cs_wy (A : sst) (W : Int → Int) : Prop := ∀ e rest, a_sk A = e :: rest → ∀ j : Int, 0 ≤ j ∧ j < a_ln A e.1 → W j = a_wa A e.1 j
def cs_ok (I : Nat → Int) (F : Nat → Int → Int) (A : sst) (Tr Un W L G P O Ln V : Int → Int) : Prop := po_ok (a_n A) L G ∧ cs_pk A L ∧ cs_oc I F A P O Ln V ∧ cs_tr I F A Tr Un (a_sk A) ∧ cs_wy A W
/-- what must hold of a search's cells even where there was no room -/
def cs_ty (L G P V : Int → Int) : Prop := (∀ j, 0 ≤ L j ∧ L j < 9223372036854775808) ∧ (∀ i : Int, ¬ (0 ≤ i ∧ i < 4096) → G i = 0) ∧ (∀ j, 0 ≤ P j ∧ P j < 9223372036854775808) ∧ ∀ g : Int, 5760 ≤ g → V g = 0
theorem cs_ok.ty {I : Nat → Int} {F : Nat → Int → Int} {A : sst} {Tr Un W L G P O Ln V : Int → Int} (H : cs_ok I F A Tr Un W L G P O Ln V) (hc : a_c A ≤ 60) : cs_ty L G P V :=
  ⟨H.1.2.1, fun i hi => (H.1.2.2.1 i).2 hi, H.2.2.1.2.1, fun g hg => H.2.2.1.2.2.2 g (by omega)⟩
theorem cs_tr_congr {I : Nat → Int} {F : Nat → Int → Int} {A A' : sst} {Tr Un Tr' Un' : Int → Int} : ∀ l : List (Int × Int), (∀ e, e ∈ l → a_pt A' e.1 = a_pt A e.1) → (∀ j : Int, 0 ≤ j ∧ j < l.length → Tr' j = Tr j ∧ Un' j = Un j) → cs_tr I F A Tr Un l → cs_tr I F A' Tr' Un' l := by
  intro l
  induction l with
  | nil => exact fun _ _ _ => trivial
  | cons e l ih =>
    rintro h1 h2 ⟨a, b, c⟩
    have hl : ((e :: l).length : Int) = l.length + 1 := by
      rw [List.length_cons]
      omega
    have q := h2 l.length (by omega)
    refine ⟨q.1.trans a, ?_, ih (fun f hf => h1 f (List.mem_cons_of_mem _ hf)) (fun j hj => h2 j (by omega)) c⟩
    rw [h1 e (List.mem_cons_self ..)]
    exact q.2.trans b
/-- the same row of three longs is the same POINT -/
theorem pk_met {I : Nat → Int} {F : Nat → Int → Int} {r0 : rn} {A : sst} (si : s_iv I F r0 A) (hI : I 1 ≤ 3) {L : Int → Int} (hL : cs_pk A L) {r : rn} (hv : rn_iv I F r) {X : Nat → Int → Int} {S : Int → Int → Int} (ho : ru_ok r X S) (e0 : L (a_n A * 3) = t3 X 0) (e1 : L (a_n A * 3 + 1) = t3 X 3) (e2 : L (a_n A * 3 + 2) = h3 X) : (∃ k : Int, (0 ≤ k ∧ k < a_n A) ∧ same3 L (k * 3) (a_n A * 3)) ↔ rmet (a_pt A) r (a_n A).toNat = true := by
  have n := si.1
  rw [rmet_iff]
  have tx := ru_tr hI hv ho
  constructor
  · rintro ⟨k, hk, hs⟩
    obtain ⟨Y, T, y0, y1, y2, y3⟩ := hL k hk
    have iv := (si.2.2.2.1 k hk).1
    have ty := ru_tr hI iv y0
    refine ⟨k, by omega, same_run hI iv hv y0 ho (pk_rows ty.1 tx.1 ty.2.1 tx.2.1 ?_ ?_ ?_)⟩
    · rw [← y1, ← e0]
      exact hs.1
    · rw [← y2, ← e1]
      exact hs.2.1
    · rw [← y3, ← e2]
      exact hs.2.2
  · rintro ⟨k, hk, hs⟩
    have hk2 : 0 ≤ k ∧ k < a_n A := by omega
    obtain ⟨Y, T, y0, y1, y2, y3⟩ := hL k hk2
    have iv := (si.2.2.2.1 k hk2).1
    have b := pk_back (same_pk hI iv hv y0 ho hs)
    refine ⟨k, hk2, ?_, ?_, ?_⟩
    · rw [y1, e0]
      exact b.1
    · rw [y2, e1]
      exact b.2.1
    · rw [y3, e2]
      exact b.2.2
theorem cs_pk_row {A : sst} {L L' : Int → Int} (h : cs_pk A L) (he : ∀ j : Int, j < a_n A * 3 → L' j = L j) : cs_pk A L' := fun p hp => by
  obtain ⟨Y, T, y0, y1, y2, y3⟩ := h p hp
  refine ⟨Y, T, y0, ?_, ?_, ?_⟩
  · rw [he _ (by omega)]
    exact y1
  · rw [he _ (by omega)]
    exact y2
  · rw [he _ (by omega)]
    exact y3
theorem cs_pk_new {A : sst} {L : Int → Int} (h : cs_pk A L) {r : rn} {X : Nat → Int → Int} {S : Int → Int → Int} (ho : ru_ok r X S) (e0 : L (a_n A * 3) = t3 X 0) (e1 : L (a_n A * 3 + 1) = t3 X 3) (e2 : L (a_n A * 3 + 2) = h3 X) {l : Int} {w : Int → Int} : cs_pk (s_add A r l w) L := fun p hp => by
  have hp2 : 0 ≤ p ∧ p < a_n A + 1 := hp
  show ∃ Y T, ru_ok (vU (a_pt A) (a_n A) r p) Y T ∧ _
  by_cases c : p = a_n A
  · rw [c, vU_hit]
    exact ⟨X, S, ho, e0, e1, e2⟩
  · rw [vU_miss c]
    exact h p (by omega)
/-- the OUTCOMES where one more POINT is known -/
theorem cs_oc_add {I : Nat → Int} {F : Nat → Int → Int} {r0 : rn} {A : sst} (si : s_iv I F r0 A) {P O Ln V : Int → Int} (h : cs_oc I F A P O Ln V) {r : rn} {l : Int} {w : Int → Int} : cs_oc I F (s_add A r l w) P O Ln V := by
  refine ⟨fun i hi => ?_, h.2⟩
  have hi2 : 0 ≤ i ∧ i < a_c A := hi
  have a := si.2.2.2.2.1 i hi2
  have b := si.2.2.2.2.1 (a_od A i) a.2
  obtain ⟨q1, q2, q3, q4⟩ := h.1 i hi2
  have e1 : a_P I F (s_add A r l w) i = ocd (oc I F (vU (a_pt A) (a_n A) r (a_at A (a_od A i)))) := rfl
  have e2 : a_ln (s_add A r l w) (a_at (s_add A r l w) i) = vI (a_ln A) (a_n A) l (a_at A i) := rfl
  have e3 : a_wa (s_add A r l w) (a_at (s_add A r l w) i) = vU (a_wa A) (a_n A) w (a_at A i) := rfl
  rw [e1, e2, e3, vU_miss (by omega), vI_miss (by omega), vU_miss (by omega)]
  exact ⟨q1, q2, q3, q4⟩
/-- one more OUTCOME -/
theorem cs_oc_new {I : Nat → Int} {F : Nat → Int → Int} {r0 : rn} {A : sst} (si : s_iv I F r0 A) {P O Ln V W : Int → Int} (h : cs_oc I F A P O Ln V) {p pos l : Int} (hp : 0 ≤ p ∧ p < a_n A) (hpos : 0 ≤ pos ∧ pos ≤ a_c A) (hl : a_ln A p = l) (hl6 : 0 ≤ l ∧ l ≤ 66) (hW : ∀ j : Int, 0 ≤ j ∧ j < l → W j = a_wa A p j) (hx : 0 ≤ ocd (oc I F (a_pt A p)) ∧ ocd (oc I F (a_pt A p)) < 9223372036854775808) : cs_oc I F (s_new A pos p) (vI (shn P pos (a_c A)) pos (ocd (oc I F (a_pt A p)))) (vI (shn O pos (a_c A)) pos (a_c A)) (vI Ln (a_c A) l) (wr V W (a_c A) 0 l) := by
  have hc := si.2.1
  have pw := si.2.2.2.1 p hp
  obtain ⟨h1, h2, h3, h4⟩ := h
  refine ⟨fun i hi => ⟨?_, ?_, ?_, fun k hk => ?_⟩, fun j => ?_, fun g => ?_, fun g hg => ?_⟩
  · have hi2 : 0 ≤ i ∧ i < a_c A + 1 := hi
    show _ = ocd (oc I F (a_pt A (vI (a_at A) (a_c A) p (vI (shn (a_od A) pos (a_c A)) pos (a_c A) i))))
    by_cases c : i = pos
    · rw [c, vI_hit, vI_hit, vI_hit]
    · rw [vI_miss c, vI_miss c]
      unfold shn
      by_cases c2 : pos < i ∧ i ≤ a_c A
      · have a := si.2.2.2.2.1 (i - 1) (by omega)
        rw [if_pos c2, if_pos c2, vI_miss (by omega)]
        exact (h1 (i - 1) (by omega)).1
      · have a := si.2.2.2.2.1 i (by omega)
        rw [if_neg c2, if_neg c2, vI_miss (by omega)]
        exact (h1 i (by omega)).1
  · have hi2 : 0 ≤ i ∧ i < a_c A + 1 := hi
    show _ = vI (shn (a_od A) pos (a_c A)) pos (a_c A) i
    by_cases c : i = pos
    · rw [c, vI_hit, vI_hit]
    · rw [vI_miss c, vI_miss c]
      unfold shn
      by_cases c2 : pos < i ∧ i ≤ a_c A
      · rw [if_pos c2, if_pos c2]
        exact (h1 (i - 1) (by omega)).2.1
      · rw [if_neg c2, if_neg c2]
        exact (h1 i (by omega)).2.1
  · have hi2 : 0 ≤ i ∧ i < a_c A + 1 := hi
    show _ = a_ln A (vI (a_at A) (a_c A) p i)
    by_cases c : i = a_c A
    · rw [c, vI_hit, vI_hit, hl]
    · rw [vI_miss c, vI_miss c]
      exact (h1 i (by omega)).2.2.1
  · have hi2 : 0 ≤ i ∧ i < a_c A + 1 := hi
    have hk2 : 0 ≤ k ∧ k < a_ln A (vI (a_at A) (a_c A) p i) := hk
    show wr V W (a_c A) 0 l (96 * i + k) = a_wa A (vI (a_at A) (a_c A) p i) k
    unfold wr
    by_cases c : i = a_c A
    · rw [c, vI_hit] at hk2
      rw [c, vI_hit, if_pos (by omega), show 96 * a_c A + k - 96 * a_c A = k by omega]
      exact hW k (by omega)
    · rw [vI_miss c] at hk2
      have a := si.2.2.2.2.1 i (by omega)
      have b := (si.2.2.2.1 _ a.1).2.2.1
      have mu0 := (mu_0 (a := 8) (si.2.2.2.1 _ a.1).1.1 (by decide)).1
      rw [vI_miss c, if_neg (by omega)]
      exact (h1 i (by omega)).2.2.2 k hk2
  · unfold vI
    by_cases c : j = pos
    · rw [if_pos c]
      exact hx
    · rw [if_neg c]
      unfold shn
      split
      · exact h2 _
      · exact h2 _
  · unfold wr
    split
    · rw [hW _ (by omega)]
      have := pw.2.2.2 (g - 96 * a_c A) (by omega)
      omega
    · exact h3 g
  · have hg2 : 96 * (a_c A + 1) ≤ g := hg
    unfold wr
    rw [if_neg (by omega)]
    exact h4 g (by omega)
/-- what arrive answers and does -/
def ar_q (h : am_H) (s : Nat) (I : Nat → Int) (F : Nat → Int → Int) (W : Int → Int) (res : Option sst) (r9 : Option Value) (h' : am_H) : Prop :=
  match res with
  | some A => r9 = some (.int (iI 1)) ∧ ∃ Tr Un L G P O Ln V, cz_to h s (a_sk A).length (a_n A) (a_c A) Tr Un W L G P O Ln V h' ∧ cs_ok I F A Tr Un W L G P O Ln V
  | none => r9 = some (.int (iI 0)) ∧ ∃ dp n c Tr Un L G P O Ln V, cz_to h s dp n c Tr Un W L G P O Ln V h' ∧ cs_ty L G P V
set_option maxHeartbeats 8000000 in
theorem ct_arrive (d : Nat) (hd : 5 ≤ d) (h : am_H) (p q w : Nat) (n m : Int) (X : Nat → Int → Int) (S : Int → Int → Int) (H : ru_at h p q w n m X S) (N : Int) (A : Nat → Int → Int) (R : Nat → Int → Int → Int) (M : Int) (B : Nat → Int → Int) (K : Nat → Int → Int → Int) (E : en_at h p q w N A R M B K) (I : Nat → Int) (F : Nat → Int → Int) (hr : md_rg I F) (hT : ty_ok I F N A R) (hB : bo_ok I F M B K) (r : rn) (hv : rn_iv I F r) (ho : ru_ok r X S) (s : Nat) (hs : p + 15 < s ∨ s + 11 < p) (hws : w + 52 < s) (r0 : rn) (A0 : sst) (si : s_iv I F r0 A0) (Tr Un W L G P O Ln V : Int → Int) (C : cz_at h s (a_sk A0).length (a_n A0) (a_c A0) Tr Un W L G P O Ln V) (CO : cs_ok I F A0 Tr Un W L G P O Ln V) (l : Int) (hl : l = (a_sk A0).length) (hl6 : 0 ≤ l ∧ mu 8 r + l ≤ 66) (wv : Int → Int) (hwv : ∀ j : Int, 0 ≤ j ∧ j < l → W j = wv j) (hw2 : ∀ j : Int, 0 ≤ j ∧ j < l → 0 ≤ wv j ∧ wv j ≤ 2) (h00 : a_n A0 = 0 → r = r0) (ho0 : ox r0 r) : am_Ct am_df am_MT d 80 [.ref s, .ref p] h (ar_q h s I F W (s_come I F A0 r l wv)) := by
  have hI := hr.1
  have hn := si.1
  have hc := si.2.1
  have mu0 := (mu_0 (a := 8) hv.1 (by decide)).1
  obtain ⟨⟨s0, sO, sT, sU, sW⟩, cp, co⟩ := C
  obtain ⟨k1, k2, k3, k4, k5⟩ := CO
  obtain ⟨x1, x2, x3, x4⟩ := ru_tr hI.2.2.2 hv ho
  have hO := H.2.1
  have pO := cp.2.1
  obtain ⟨d, rfl⟩ : ∃ e, d = e + 1 := ⟨d - 1, by omega⟩
  have CP := ct_padd d (by omega) h p q w n m X S H x1 x2 (s + 1) (by omega) (a_n A0) L G cp k1
  refine am_ct_of2 mt_Search_arrive (Nat.le_of_ble_eq_true rfl) ?_
  simp only [ar_nil, ar_int, ar_ref, ar_long, Nat.reduceAdd]
  refine am_go_of 5 [3, 16, 23, 28] _ c_Search_arrive_0 ?_
  simp (maxSteps := 2000000) (disch := omega) only [c_Search_arrive_0, c_Search_arrive_1, c_Search_arrive_2, c_Search_arrive_3, c_Search_arrive_4, c_Search_arrive_5, c_Search_arrive_6, c_Search_arrive_7, c_Search_arrive_8, c_Search_arrive_9, c_Search_arrive_10, c_Search_arrive_11, c_Search_arrive_12, c_Search_arrive_13, c_Search_arrive_14, c_Search_arrive_15, c_Search_arrive_16, c_Search_arrive_17, c_Search_arrive_18, c_Search_arrive_19, c_Search_arrive_20, c_Search_arrive_21, c_Search_arrive_22, c_Search_arrive_23, c_Search_arrive_24, c_Search_arrive_25, c_Search_arrive_26, c_Search_arrive_27, c_Search_arrive_28, c_Search_arrive_29, c_Search_arrive_30, c_Search_arrive_31, c_Search_arrive_32, c_Search_arrive_33, c_Search_arrive_34, c_Search_arrive_35, c_Search_arrive_36, c_Search_arrive_37, c_Search_arrive_38, c_Search_arrive_39, c_Search_arrive_40, c_Search_arrive_41, c_Search_arrive_42, c_Search_arrive_43, c_Search_arrive_44, c_Search_arrive_45, c_Search_arrive_46, c_Search_arrive_47, c_Search_arrive_48, c_Search_arrive_49, c_Search_arrive_50, c_Search_arrive_51, c_Search_arrive_52, c_Search_arrive_53, sx_aload_n, sx_bipush, sx_dup_i, sx_dup_r, sx_getfield, sx_iadd, sx_iastore, sx_iconst, sx_ifCond_ne, sx_if_icmp_gt, sx_if_icmp_ne, sx_iload_n, sx_ireturn, sx_istore_n, sx_putfield, sx_zreturn, am_W_s, am_W_0, am_mm_some, List.mem_cons, or_false, false_or, or_self, or_true, true_or, reduceIte, if_false, if_true, am_o_some, am_o_none, am_o_bad, am_o_good, am_ldi_hit, am_ldi_miss, am_lda_hit, am_lda_miss, am_ldl_hit, am_ldl_miss, am_inc_eq, am_inc_hit, am_inc_miss, am_ob_hit, am_fd_0, am_fd_s, am_ai_hit, am_ab_3, am_al_hit, am_aq_4, am_al0_hit, am_put_1, am_put_2, am_put_put, am_up_hit, am_up_miss, am_s1_eq, am_s2_eq, am_fl_nil, am_fl_hit, am_fl_int, am_fl_ref, am_fl_long, am_fl_longx, am_fl2_nil, am_fl2_hit, am_fl2_hit1, am_fl2_int, am_fl2_ref, am_fl2_long, List.not_mem_nil, not_false_eq_true, ne_eq, Nat.reduceAdd, Nat.reduceEqDiff, Nat.zero_add, Nat.add_left_cancel_iff, List.set_cons_zero, List.set_cons_succ, List.length_cons, List.length_nil, Nat.reduceLT, am_ft_i, am_ft_r, am_ft_z, and_true, true_and, Option.toList_some, Option.toList_none, List.cons_append, List.nil_append, List.drop_succ_cons, List.drop_zero, iI_c, iI_b, iI_s, iI_n, iI_add, iI_sub, iI_mul, iI_neg, iI_nle, iI_ix, iI_eq0, iI_eq1, iI_lt0, iI_0lt, iI_le0, iI_0le, iI_eq, iI_lt, iI_le, iI_upd, iI_updZ, Int.reduceEq, Int.reduceLT, Int.reduceLE, Int.reduceNeg, Int.reduceNe, sO, se_fs_len, se_f0, se_f1, se_f2, se_f3, se_f4, se_f5, se_f6, se_s3, ru_fs_len, ru_f0, ru_f1, ru_f2, ru_f3, ru_f4, ru_f5, ru_f6, ru_f7, ru_f8, ru_f9, ru_f10, ru_f11, ru_f12, ru_f13, ru_s0, ru_t2, ru_l2, ru_t3, ru_l3, ru_t4, ru_l4, ru_t5, ru_l5, ru_t10, ru_l10, ru_t11, ru_l11, ru_t12, ru_l12, ru_t13, ru_l13, ru_t14, ru_l14, ru_t15, ru_l15, po_fs_len, po_f0, po_f1, po_f2, po_s0, ou_fs_len, ou_f0, ou_f1, ou_f2, ou_f3, ou_f4, ou_s0, lo_fs_len, lo_f0, lo_f1, lo_s0, rw_hit]
  refine am_go_call c_Search_arrive_3 (by decide) (by decide) (by first | (simp [am_can, am_kd, Value.category, pO]; done) | (simp [am_can, am_kd, am_b, am_c, Value.category, pO]; done) | (simp (disch := omega) [am_can, am_kd, am_b, am_c, Value.category, am_put_1, am_up_hit, am_up_miss, pO]; done)) ?_
  refine CP.mono (fun r9 h2 hr9 => ?_)
  clear CP
  obtain ⟨L', h1, eL, cp1, k1', ⟨f1, f1b⟩, hq⟩ := hr9
  have eLo : ∀ j : Int, j < a_n A0 * 3 → L' j = L j := fun j hj => by
    rw [eL, vI_miss (by omega), vI_miss (by omega), vI_miss (by omega)]
  have y0 : L' (a_n A0 * 3) = t3 X 0 := by
    rw [eL, vI_miss (by omega), vI_miss (by omega), vI_hit]
  have y1 : L' (a_n A0 * 3 + 1) = t3 X 3 := by
    rw [eL, vI_miss (by omega), vI_hit]
  have y2 : L' (a_n A0 * 3 + 2) = h3 X := by
    rw [eL, vI_hit]
  clear eL
  have k2' := cs_pk_row k2 eLo
  have pm := pk_met si hI.2.2.2 k2' hv ho y0 y1 y2
  have C1 : cz_to h s (a_sk A0).length (a_n A0) (a_c A0) Tr Un W L' G P O Ln V h1 := ⟨⟨se_at.fr ⟨s0, sO, sT, sU, sW⟩ (fun a ha => f1 a (by omega)), cp1, co.fr (fun a ha hb => f1 a (by omega))⟩, fun a ha => f1 a (by omega), f1b⟩
  have CO1 : cs_ok I F A0 Tr Un W L' G P O Ln V := ⟨k1', k2', k3, k4, k5⟩
  rcases hq with ⟨z, rfl, rfl⟩ | ⟨z, z3, rfl, rfl⟩ | ⟨z, z3, rfl, G', cp2, k1n, f2, f2b⟩
  · have g : ar_q h s I F W (s_come I F A0 r l wv) (some (.int (iI 1))) h2 := by
      rw [show s_come I F A0 r l wv = some A0 from if_pos (pm.mp z)]
      exact ⟨rfl, Tr, Un, L', G, P, O, Ln, V, C1, CO1⟩
    generalize ar_q h s I F W (s_come I F A0 r l wv) = Q at *
    clear C1 CO1 pm z
    refine am_go_of 10 [3, 16, 23, 28] _ c_Search_arrive_4 ?_
    simp (maxSteps := 2000000) (disch := omega) only [c_Search_arrive_0, c_Search_arrive_1, c_Search_arrive_2, c_Search_arrive_3, c_Search_arrive_4, c_Search_arrive_5, c_Search_arrive_6, c_Search_arrive_7, c_Search_arrive_8, c_Search_arrive_9, c_Search_arrive_10, c_Search_arrive_11, c_Search_arrive_12, c_Search_arrive_13, c_Search_arrive_14, c_Search_arrive_15, c_Search_arrive_16, c_Search_arrive_17, c_Search_arrive_18, c_Search_arrive_19, c_Search_arrive_20, c_Search_arrive_21, c_Search_arrive_22, c_Search_arrive_23, c_Search_arrive_24, c_Search_arrive_25, c_Search_arrive_26, c_Search_arrive_27, c_Search_arrive_28, c_Search_arrive_29, c_Search_arrive_30, c_Search_arrive_31, c_Search_arrive_32, c_Search_arrive_33, c_Search_arrive_34, c_Search_arrive_35, c_Search_arrive_36, c_Search_arrive_37, c_Search_arrive_38, c_Search_arrive_39, c_Search_arrive_40, c_Search_arrive_41, c_Search_arrive_42, c_Search_arrive_43, c_Search_arrive_44, c_Search_arrive_45, c_Search_arrive_46, c_Search_arrive_47, c_Search_arrive_48, c_Search_arrive_49, c_Search_arrive_50, c_Search_arrive_51, c_Search_arrive_52, c_Search_arrive_53, sx_aload_n, sx_bipush, sx_dup_i, sx_dup_r, sx_getfield, sx_iadd, sx_iastore, sx_iconst, sx_ifCond_ne, sx_if_icmp_gt, sx_if_icmp_ne, sx_iload_n, sx_ireturn, sx_istore_n, sx_putfield, sx_zreturn, am_W_s, am_W_0, am_mm_some, List.mem_cons, or_false, false_or, or_self, or_true, true_or, reduceIte, if_false, if_true, am_o_some, am_o_none, am_o_bad, am_o_good, am_ldi_hit, am_ldi_miss, am_lda_hit, am_lda_miss, am_ldl_hit, am_ldl_miss, am_inc_eq, am_inc_hit, am_inc_miss, am_ob_hit, am_fd_0, am_fd_s, am_ai_hit, am_ab_3, am_al_hit, am_aq_4, am_al0_hit, am_put_1, am_put_2, am_put_put, am_up_hit, am_up_miss, am_s1_eq, am_s2_eq, am_fl_nil, am_fl_hit, am_fl_int, am_fl_ref, am_fl_long, am_fl_longx, am_fl2_nil, am_fl2_hit, am_fl2_hit1, am_fl2_int, am_fl2_ref, am_fl2_long, List.not_mem_nil, not_false_eq_true, ne_eq, Nat.reduceAdd, Nat.reduceEqDiff, Nat.zero_add, Nat.add_left_cancel_iff, List.set_cons_zero, List.set_cons_succ, List.length_cons, List.length_nil, Nat.reduceLT, am_ft_i, am_ft_r, am_ft_z, and_true, true_and, Option.toList_some, Option.toList_none, List.cons_append, List.nil_append, List.drop_succ_cons, List.drop_zero, iI_c, iI_b, iI_s, iI_n, iI_add, iI_sub, iI_mul, iI_neg, iI_nle, iI_ix, iI_eq0, iI_eq1, iI_lt0, iI_0lt, iI_le0, iI_0le, iI_eq, iI_lt, iI_le, iI_upd, iI_updZ, Int.reduceEq, Int.reduceLT, Int.reduceLE, Int.reduceNeg, Int.reduceNe, se_fs_len, se_f0, se_f1, se_f2, se_f3, se_f4, se_f5, se_f6, se_s3, ru_fs_len, ru_f0, ru_f1, ru_f2, ru_f3, ru_f4, ru_f5, ru_f6, ru_f7, ru_f8, ru_f9, ru_f10, ru_f11, ru_f12, ru_f13, ru_s0, ru_t2, ru_l2, ru_t3, ru_l3, ru_t4, ru_l4, ru_t5, ru_l5, ru_t10, ru_l10, ru_t11, ru_l11, ru_t12, ru_l12, ru_t13, ru_l13, ru_t14, ru_l14, ru_t15, ru_l15, po_fs_len, po_f0, po_f1, po_f2, po_s0, ou_fs_len, ou_f0, ou_f1, ou_f2, ou_f3, ou_f4, ou_s0, lo_fs_len, lo_f0, lo_f1, lo_s0, rw_hit]
    exact g
  · have g : ar_q h s I F W (s_come I F A0 r l wv) (some (.int (iI 0))) h2 := by
      rw [show s_come I F A0 r l wv = none from (if_neg (fun y => z (pm.mpr y))).trans (if_pos z3)]
      exact ⟨rfl, _, _, _, Tr, Un, L', G, P, O, Ln, V, C1, CO1.ty hc.2⟩
    generalize ar_q h s I F W (s_come I F A0 r l wv) = Q at *
    clear C1 CO1 pm z
    refine am_go_of 15 [3, 16, 23, 28] _ c_Search_arrive_4 ?_
    simp (maxSteps := 2000000) (disch := omega) only [c_Search_arrive_0, c_Search_arrive_1, c_Search_arrive_2, c_Search_arrive_3, c_Search_arrive_4, c_Search_arrive_5, c_Search_arrive_6, c_Search_arrive_7, c_Search_arrive_8, c_Search_arrive_9, c_Search_arrive_10, c_Search_arrive_11, c_Search_arrive_12, c_Search_arrive_13, c_Search_arrive_14, c_Search_arrive_15, c_Search_arrive_16, c_Search_arrive_17, c_Search_arrive_18, c_Search_arrive_19, c_Search_arrive_20, c_Search_arrive_21, c_Search_arrive_22, c_Search_arrive_23, c_Search_arrive_24, c_Search_arrive_25, c_Search_arrive_26, c_Search_arrive_27, c_Search_arrive_28, c_Search_arrive_29, c_Search_arrive_30, c_Search_arrive_31, c_Search_arrive_32, c_Search_arrive_33, c_Search_arrive_34, c_Search_arrive_35, c_Search_arrive_36, c_Search_arrive_37, c_Search_arrive_38, c_Search_arrive_39, c_Search_arrive_40, c_Search_arrive_41, c_Search_arrive_42, c_Search_arrive_43, c_Search_arrive_44, c_Search_arrive_45, c_Search_arrive_46, c_Search_arrive_47, c_Search_arrive_48, c_Search_arrive_49, c_Search_arrive_50, c_Search_arrive_51, c_Search_arrive_52, c_Search_arrive_53, sx_aload_n, sx_bipush, sx_dup_i, sx_dup_r, sx_getfield, sx_iadd, sx_iastore, sx_iconst, sx_ifCond_ne, sx_if_icmp_gt, sx_if_icmp_ne, sx_iload_n, sx_ireturn, sx_istore_n, sx_putfield, sx_zreturn, am_W_s, am_W_0, am_mm_some, List.mem_cons, or_false, false_or, or_self, or_true, true_or, reduceIte, if_false, if_true, am_o_some, am_o_none, am_o_bad, am_o_good, am_ldi_hit, am_ldi_miss, am_lda_hit, am_lda_miss, am_ldl_hit, am_ldl_miss, am_inc_eq, am_inc_hit, am_inc_miss, am_ob_hit, am_fd_0, am_fd_s, am_ai_hit, am_ab_3, am_al_hit, am_aq_4, am_al0_hit, am_put_1, am_put_2, am_put_put, am_up_hit, am_up_miss, am_s1_eq, am_s2_eq, am_fl_nil, am_fl_hit, am_fl_int, am_fl_ref, am_fl_long, am_fl_longx, am_fl2_nil, am_fl2_hit, am_fl2_hit1, am_fl2_int, am_fl2_ref, am_fl2_long, List.not_mem_nil, not_false_eq_true, ne_eq, Nat.reduceAdd, Nat.reduceEqDiff, Nat.zero_add, Nat.add_left_cancel_iff, List.set_cons_zero, List.set_cons_succ, List.length_cons, List.length_nil, Nat.reduceLT, am_ft_i, am_ft_r, am_ft_z, and_true, true_and, Option.toList_some, Option.toList_none, List.cons_append, List.nil_append, List.drop_succ_cons, List.drop_zero, iI_c, iI_b, iI_s, iI_n, iI_add, iI_sub, iI_mul, iI_neg, iI_nle, iI_ix, iI_eq0, iI_eq1, iI_lt0, iI_0lt, iI_le0, iI_0le, iI_eq, iI_lt, iI_le, iI_upd, iI_updZ, Int.reduceEq, Int.reduceLT, Int.reduceLE, Int.reduceNeg, Int.reduceNe, se_fs_len, se_f0, se_f1, se_f2, se_f3, se_f4, se_f5, se_f6, se_s3, ru_fs_len, ru_f0, ru_f1, ru_f2, ru_f3, ru_f4, ru_f5, ru_f6, ru_f7, ru_f8, ru_f9, ru_f10, ru_f11, ru_f12, ru_f13, ru_s0, ru_t2, ru_l2, ru_t3, ru_l3, ru_t4, ru_l4, ru_t5, ru_l5, ru_t10, ru_l10, ru_t11, ru_l11, ru_t12, ru_l12, ru_t13, ru_l13, ru_t14, ru_l14, ru_t15, ru_l15, po_fs_len, po_f0, po_f1, po_f2, po_s0, ou_fs_len, ou_f0, ou_f1, ou_f2, ou_f3, ou_f4, ou_s0, lo_fs_len, lo_f0, lo_f1, lo_s0, rw_hit]
    exact g
  · have nm : ¬ rmet (a_pt A0) r (a_n A0).toNat = true := fun y => z (pm.mpr y)
    have n3 : a_n A0 ≠ 3000 := by omega
    have ec : s_come I F A0 r l wv = if an1 I F r 3 = 1 then some (s_stk (s_add A0 r l wv) ((a_n A0, 0) :: a_sk A0)) else s_out I F (s_add A0 r l wv) (a_n A0) := (if_neg nm).trans (if_neg n3)
    have fr : ∀ a, (a < s + 1 ∨ s + 3 < a) → h2.1 a = h.1 a := fun a ha => (f2 a (by omega)).trans (f1 a (by omega))
    have C2 : cz_to h s (a_sk A0).length (a_n A0 + 1) (a_c A0) Tr Un W L' G' P O Ln V h2 := ⟨⟨se_at.fr ⟨s0, sO, sT, sU, sW⟩ (fun a ha => fr a (by omega)), cp2, co.fr (fun a ha hb => fr a (by omega))⟩, fun a ha => fr a (by omega), f2b.trans f1b⟩
    have H2 : ru_at h2 p q w n m X S := H.fr (fun a ha hb => fr a (by omega))
    have E2 : en_at h2 p q w N A R M B K := E.mv (fun a ha => fr a (by omega))
    have B1 : s_iv I F r0 (s_add A0 r l wv) := s_add_iv si n3 hv ho0 hl6 hw2 h00
    have pk3 : cs_pk (s_add A0 r l wv) L' := cs_pk_new k2' ho y0 y1 y2
    have oc3 : cs_oc I F (s_add A0 r l wv) P O Ln V := cs_oc_add si k3
    have lt := s_ch_lt (a_sk A0) si.2.2.2.2.2
    obtain ⟨⟨-, sO2, sT2, sU2, sW2⟩, cp2', co2⟩ := C2.1
    have hO2 := H2.2.1
    have coO := co2.2.1
    have CA := ct_able d (by omega) h2 p q w n m X S H2 N A R M B K E2 I F hr hT hB r hv ho
    rw [mb_ub hI.2.2.1 hI.2.2.2] at CA
    have ua := ub_an (I := I) (F := F) (r := r)
    have ur := ub_rg (I := I) (F := F) (r := r) (t := 0)
    clear z pm k2' k2 cp1 C1 CO1 f1 f1b f2 f2b k1 k1' H E cp co sO sT sU sW
    rw [ec]
    clear ec
    have m1 : ¬ a_n A0 = -1 := by omega
    have m4 : ¬ a_n A0 = -4 := by omega
    refine am_go_of 20 [3, 16, 23, 28] _ c_Search_arrive_4 ?_
    simp (maxSteps := 2000000) (disch := omega) only [c_Search_arrive_0, c_Search_arrive_1, c_Search_arrive_2, c_Search_arrive_3, c_Search_arrive_4, c_Search_arrive_5, c_Search_arrive_6, c_Search_arrive_7, c_Search_arrive_8, c_Search_arrive_9, c_Search_arrive_10, c_Search_arrive_11, c_Search_arrive_12, c_Search_arrive_13, c_Search_arrive_14, c_Search_arrive_15, c_Search_arrive_16, c_Search_arrive_17, c_Search_arrive_18, c_Search_arrive_19, c_Search_arrive_20, c_Search_arrive_21, c_Search_arrive_22, c_Search_arrive_23, c_Search_arrive_24, c_Search_arrive_25, c_Search_arrive_26, c_Search_arrive_27, c_Search_arrive_28, c_Search_arrive_29, c_Search_arrive_30, c_Search_arrive_31, c_Search_arrive_32, c_Search_arrive_33, c_Search_arrive_34, c_Search_arrive_35, c_Search_arrive_36, c_Search_arrive_37, c_Search_arrive_38, c_Search_arrive_39, c_Search_arrive_40, c_Search_arrive_41, c_Search_arrive_42, c_Search_arrive_43, c_Search_arrive_44, c_Search_arrive_45, c_Search_arrive_46, c_Search_arrive_47, c_Search_arrive_48, c_Search_arrive_49, c_Search_arrive_50, c_Search_arrive_51, c_Search_arrive_52, c_Search_arrive_53, sx_aload_n, sx_bipush, sx_dup_i, sx_dup_r, sx_getfield, sx_iadd, sx_iastore, sx_iconst, sx_ifCond_ne, sx_if_icmp_gt, sx_if_icmp_ne, sx_iload_n, sx_ireturn, sx_istore_n, sx_putfield, sx_zreturn, am_W_s, am_W_0, am_mm_some, List.mem_cons, or_false, false_or, or_self, or_true, true_or, reduceIte, if_false, if_true, am_o_some, am_o_none, am_o_bad, am_o_good, am_ldi_hit, am_ldi_miss, am_lda_hit, am_lda_miss, am_ldl_hit, am_ldl_miss, am_inc_eq, am_inc_hit, am_inc_miss, am_ob_hit, am_fd_0, am_fd_s, am_ai_hit, am_ab_3, am_al_hit, am_aq_4, am_al0_hit, am_put_1, am_put_2, am_put_put, am_up_hit, am_up_miss, am_s1_eq, am_s2_eq, am_fl_nil, am_fl_hit, am_fl_int, am_fl_ref, am_fl_long, am_fl_longx, am_fl2_nil, am_fl2_hit, am_fl2_hit1, am_fl2_int, am_fl2_ref, am_fl2_long, List.not_mem_nil, not_false_eq_true, ne_eq, Nat.reduceAdd, Nat.reduceEqDiff, Nat.zero_add, Nat.add_left_cancel_iff, List.set_cons_zero, List.set_cons_succ, List.length_cons, List.length_nil, Nat.reduceLT, am_ft_i, am_ft_r, am_ft_z, and_true, true_and, Option.toList_some, Option.toList_none, List.cons_append, List.nil_append, List.drop_succ_cons, List.drop_zero, iI_c, iI_b, iI_s, iI_n, iI_add, iI_sub, iI_mul, iI_neg, iI_nle, iI_ix, iI_eq0, iI_eq1, iI_lt0, iI_0lt, iI_le0, iI_0le, iI_eq, iI_lt, iI_le, iI_upd, iI_updZ, Int.reduceEq, Int.reduceLT, Int.reduceLE, Int.reduceNeg, Int.reduceNe, m1, m4, se_fs_len, se_f0, se_f1, se_f2, se_f3, se_f4, se_f5, se_f6, se_s3, ru_fs_len, ru_f0, ru_f1, ru_f2, ru_f3, ru_f4, ru_f5, ru_f6, ru_f7, ru_f8, ru_f9, ru_f10, ru_f11, ru_f12, ru_f13, ru_s0, ru_t2, ru_l2, ru_t3, ru_l3, ru_t4, ru_l4, ru_t5, ru_l5, ru_t10, ru_l10, ru_t11, ru_l11, ru_t12, ru_l12, ru_t13, ru_l13, ru_t14, ru_l14, ru_t15, ru_l15, po_fs_len, po_f0, po_f1, po_f2, po_s0, ou_fs_len, ou_f0, ou_f1, ou_f2, ou_f3, ou_f4, ou_s0, lo_fs_len, lo_f0, lo_f1, lo_s0, rw_hit]
    refine am_go_call c_Search_arrive_16 (by decide) (by decide) (by first | (simp [am_can, am_kd, Value.category, hO2]; done) | (simp [am_can, am_kd, am_b, am_c, Value.category, hO2]; done) | (simp (disch := omega) [am_can, am_kd, am_b, am_c, Value.category, am_put_1, am_up_hit, am_up_miss, hO2]; done)) ?_
    refine CA.mono (fun r9 h3 hr9 => ?_)
    obtain ⟨rfl, rfl⟩ := hr9
    clear CA
    by_cases ca : an1 I F r 3 = 1
    · rw [if_pos ca]
      have u0 : ¬ ub I F r 0 = 0 := fun y => (ua.mp y) ca
      have T3 := (((C2.tl (T1 := vI Tr (a_sk A0).length (a_n A0))).ut (U1 := vI Un (a_sk A0).length (ub I F r 0))).dp (dp1 := (a_sk A0).length + 1))
      have g : ar_q h s I F W (some (s_stk (s_add A0 r l wv) ((a_n A0, 0) :: a_sk A0))) (some (.int (iI 1))) (am_put (am_put (am_put h3 (s + 9) (.inl (0, 67, .inl (fun j : Nat => iI (vI Tr (a_sk A0).length (a_n A0) j))))) (s + 10) (.inl (0, 67, .inl (fun j : Nat => iI (vI Un (a_sk A0).length (ub I F r 0) j))))) s (.inr (5, se_fs s ((a_sk A0).length + 1)))) := by
        refine ⟨rfl, vI Tr (a_sk A0).length (a_n A0), vI Un (a_sk A0).length (ub I F r 0), L', G', P, O, Ln, V, ?_, k1n, pk3, oc3, ⟨vI_hit, ?_, ?_⟩, ?_⟩
        · have el : ((a_sk (s_stk (s_add A0 r l wv) ((a_n A0, 0) :: a_sk A0))).length : Int) = (a_sk A0).length + 1 := by
            show ((((a_n A0, 0) :: a_sk A0) : List (Int × Int)).length : Int) = _
            rw [List.length_cons]
            omega
          rw [el]
          exact T3
        · show vI Un (a_sk A0).length (ub I F r 0) (a_sk A0).length = ub I F (vU (a_pt A0) (a_n A0) r (a_n A0)) 0
          rw [vI_hit, vU_hit]
        · refine cs_tr_congr (A := A0) (Tr := Tr) (Un := Un) (a_sk A0) (fun e he => ?_) (fun j hj => ?_) k4
          · have := (lt e he).1
            show vU (a_pt A0) (a_n A0) r e.1 = _
            rw [vU_miss (by omega)]
          · rw [vI_miss (by omega), vI_miss (by omega)]
            exact ⟨rfl, rfl⟩
        · intro e rest he j hj
          have ee : e = (a_n A0, 0) := (List.cons.inj he).1.symm
          subst ee
          have hj2 : 0 ≤ j ∧ j < vI (a_ln A0) (a_n A0) l (a_n A0) := hj
          rw [vI_hit] at hj2
          show W j = vU (a_wa A0) (a_n A0) wv (a_n A0) j
          rw [vU_hit]
          exact hwv j hj2
      have dl : ¬ (66 : Int) < (a_sk A0).length := by omega
      have dl2 : ((a_sk A0).length : Int) < 67 := by omega
      have d0 : 0 ≤ ((a_sk A0).length : Int) := by omega
      clear T3 C2 pk3 oc3 k1n k3 k4 k5 lt B1 hwv hw2 cp2' co2
      generalize ub I F r 0 = U0 at *
      generalize ((a_sk A0).length : Int) = D at *
      generalize ar_q h s I F W (some (s_stk (s_add A0 r l wv) ((a_n A0, 0) :: a_sk A0))) = Q at *
      refine am_go_of 60 [3, 16, 23, 28] _ c_Search_arrive_17 ?_
      simp (maxSteps := 2000000) (disch := omega) only [c_Search_arrive_0, c_Search_arrive_1, c_Search_arrive_2, c_Search_arrive_3, c_Search_arrive_4, c_Search_arrive_5, c_Search_arrive_6, c_Search_arrive_7, c_Search_arrive_8, c_Search_arrive_9, c_Search_arrive_10, c_Search_arrive_11, c_Search_arrive_12, c_Search_arrive_13, c_Search_arrive_14, c_Search_arrive_15, c_Search_arrive_16, c_Search_arrive_17, c_Search_arrive_18, c_Search_arrive_19, c_Search_arrive_20, c_Search_arrive_21, c_Search_arrive_22, c_Search_arrive_23, c_Search_arrive_24, c_Search_arrive_25, c_Search_arrive_26, c_Search_arrive_27, c_Search_arrive_28, c_Search_arrive_29, c_Search_arrive_30, c_Search_arrive_31, c_Search_arrive_32, c_Search_arrive_33, c_Search_arrive_34, c_Search_arrive_35, c_Search_arrive_36, c_Search_arrive_37, c_Search_arrive_38, c_Search_arrive_39, c_Search_arrive_40, c_Search_arrive_41, c_Search_arrive_42, c_Search_arrive_43, c_Search_arrive_44, c_Search_arrive_45, c_Search_arrive_46, c_Search_arrive_47, c_Search_arrive_48, c_Search_arrive_49, c_Search_arrive_50, c_Search_arrive_51, c_Search_arrive_52, c_Search_arrive_53, sx_aload_n, sx_bipush, sx_dup_i, sx_dup_r, sx_getfield, sx_iadd, sx_iastore, sx_iconst, sx_ifCond_ne, sx_if_icmp_gt, sx_if_icmp_ne, sx_iload_n, sx_ireturn, sx_istore_n, sx_putfield, sx_zreturn, am_W_s, am_W_0, am_mm_some, List.mem_cons, or_false, false_or, or_self, or_true, true_or, reduceIte, if_false, if_true, am_o_some, am_o_none, am_o_bad, am_o_good, am_ldi_hit, am_ldi_miss, am_lda_hit, am_lda_miss, am_ldl_hit, am_ldl_miss, am_inc_eq, am_inc_hit, am_inc_miss, am_ob_hit, am_fd_0, am_fd_s, am_ai_hit, am_ab_3, am_al_hit, am_aq_4, am_al0_hit, am_put_1, am_put_2, am_put_put, am_up_hit, am_up_miss, am_s1_eq, am_s2_eq, am_fl_nil, am_fl_hit, am_fl_int, am_fl_ref, am_fl_long, am_fl_longx, am_fl2_nil, am_fl2_hit, am_fl2_hit1, am_fl2_int, am_fl2_ref, am_fl2_long, List.not_mem_nil, not_false_eq_true, ne_eq, Nat.reduceAdd, Nat.reduceEqDiff, Nat.zero_add, Nat.add_left_cancel_iff, List.set_cons_zero, List.set_cons_succ, List.length_cons, List.length_nil, Nat.reduceLT, am_ft_i, am_ft_r, am_ft_z, and_true, true_and, Option.toList_some, Option.toList_none, List.cons_append, List.nil_append, List.drop_succ_cons, List.drop_zero, iI_c, iI_b, iI_s, iI_n, iI_add, iI_sub, iI_mul, iI_neg, iI_nle, iI_ix, iI_eq0, iI_eq1, iI_lt0, iI_0lt, iI_le0, iI_0le, iI_eq, iI_lt, iI_le, iI_upd, iI_updZ, Int.reduceEq, Int.reduceLT, Int.reduceLE, Int.reduceNeg, Int.reduceNe, sO2, sT2, sU2, u0, dl, se_fs_len, se_f0, se_f1, se_f2, se_f3, se_f4, se_f5, se_f6, se_s3, ru_fs_len, ru_f0, ru_f1, ru_f2, ru_f3, ru_f4, ru_f5, ru_f6, ru_f7, ru_f8, ru_f9, ru_f10, ru_f11, ru_f12, ru_f13, ru_s0, ru_t2, ru_l2, ru_t3, ru_l3, ru_t4, ru_l4, ru_t5, ru_l5, ru_t10, ru_l10, ru_t11, ru_l11, ru_t12, ru_l12, ru_t13, ru_l13, ru_t14, ru_l14, ru_t15, ru_l15, po_fs_len, po_f0, po_f1, po_f2, po_s0, ou_fs_len, ou_f0, ou_f1, ou_f2, ou_f3, ou_f4, ou_s0, lo_fs_len, lo_f0, lo_f1, lo_s0, rw_hit]
      repeat (refine And.intro (by omega) ?_)
      exact g
    · rw [if_neg ca]
      have u0 : ub I F r 0 = 0 := ua.mpr ca
      rw [u0]
      have en : a_pt (s_add A0 r l wv) (a_n A0) = r := vU_hit
      have ocr := ocd_rg (oc_rg hv)
      have CQ := ct_packOutcome d (by omega) h3 p q w n m X S H2 N A R M B K E2 I F hr hT hB r hv ho
      have CW := ct_oadd d (by omega) h3 (s + 4) (s + 11) (by omega) (a_c A0) P O Ln V W co2 k3.2.1 hc (ocd (oc I F r)) l ⟨by omega, by omega⟩ ⟨hl6.1, by omega⟩ sW2 (fun j hj => by
        rw [hwv j hj]
        have := hw2 j hj
        omega) k3.2.2.1 k3.2.2.2
      have po : fpos P (ocd (oc I F r)) (a_c A0).toNat 0 = a_pos I F (s_add A0 r l wv) (a_n A0) := by
        unfold a_pos
        rw [en]
        exact fpos_congr _ _ (fun j hj => (oc3.1 j (by show 0 ≤ j ∧ j < a_c A0; omega)).1)
      have pr := a_pos_rg (I := I) (F := F) (A := s_add A0 r l wv) (p := a_n A0) hc.1
      have pr2 : 0 ≤ a_pos I F (s_add A0 r l wv) (a_n A0) ∧ a_pos I F (s_add A0 r l wv) (a_n A0) ≤ a_c A0 := pr
      have pP : a_pos I F (s_add A0 r l wv) (a_n A0) < a_c A0 → P (a_pos I F (s_add A0 r l wv) (a_n A0)) = a_P I F (s_add A0 r l wv) (a_pos I F (s_add A0 r l wv) (a_n A0)) := fun y => (oc3.1 _ ⟨pr.1, y⟩).1
      have NN := cs_oc_new (W := W) (l := l) B1 oc3 (p := a_n A0) (by show 0 ≤ a_n A0 ∧ a_n A0 < a_n A0 + 1; omega) pr (by show vI (a_ln A0) (a_n A0) l (a_n A0) = l; exact vI_hit) ⟨hl6.1, by omega⟩ (fun j hj => by
        show W j = vU (a_wa A0) (a_n A0) wv (a_n A0) j
        rw [vU_hit]
        exact hwv j hj) (by rw [en]; omega)
      rw [en] at NN
      have tr3 : cs_tr I F (s_add A0 r l wv) Tr Un (a_sk A0) := cs_tr_congr (A := A0) (Tr := Tr) (Un := Un) (a_sk A0) (fun e he => by
        have := (lt e he).1
        show vU (a_pt A0) (a_n A0) r e.1 = _
        rw [vU_miss (by omega)]) (fun j hj => ⟨rfl, rfl⟩) k4
      have wy3 : cs_wy (s_add A0 r l wv) W := fun e rest he j hj => by
        have he2 : a_sk A0 = e :: rest := he
        have := (lt e (by rw [he2]; exact List.mem_cons_self ..)).1
        have hj2 : 0 ≤ j ∧ j < vI (a_ln A0) (a_n A0) l e.1 := hj
        rw [vI_miss (by omega)] at hj2
        show W j = vU (a_wa A0) (a_n A0) wv e.1 j
        rw [vU_miss (by omega)]
        exact k5 e rest he2 j hj2
      have fin : ∀ r9 h4, oa_q h3 (s + 4) (a_c A0) P O Ln V W (ocd (oc I F r)) l r9 h4 → ar_q h s I F W (s_out I F (s_add A0 r l wv) (a_n A0)) r9 h4 ∧ (r9 = some (.int (iI 1)) ∨ r9 = some (.int (iI 0))) := fun r9 h4 hq => by
        unfold oa_q at hq
        rw [po] at hq
        unfold s_out
        rw [en]
        by_cases c1 : a_pos I F (s_add A0 r l wv) (a_n A0) < a_c A0 ∧ P (a_pos I F (s_add A0 r l wv) (a_n A0)) = ocd (oc I F r)
        · rw [if_pos c1] at hq
          obtain ⟨rfl, rfl⟩ := hq
          rw [if_pos (show a_pos I F (s_add A0 r l wv) (a_n A0) < a_c (s_add A0 r l wv) ∧ _ from ⟨c1.1, (pP c1.1).symm.trans c1.2⟩)]
          exact ⟨⟨rfl, Tr, Un, L', G', P, O, Ln, V, C2, k1n, pk3, oc3, tr3, wy3⟩, Or.inl rfl⟩
        · rw [if_neg c1] at hq
          rw [if_neg (show ¬ (a_pos I F (s_add A0 r l wv) (a_n A0) < a_c (s_add A0 r l wv) ∧ _) from fun y => c1 ⟨y.1, (pP y.1).trans y.2⟩)]
          by_cases c2 : a_c A0 = 60
          · rw [if_pos c2] at hq
            obtain ⟨rfl, rfl⟩ := hq
            rw [if_pos (show a_c (s_add A0 r l wv) = 60 from c2)]
            exact ⟨⟨rfl, _, _, _, Tr, Un, L', G', P, O, Ln, V, C2, k1n.2.1, fun i hi => (k1n.2.2.1 i).2 hi, k3.2.1, fun g hg => k3.2.2.2 g (by omega)⟩, Or.inr rfl⟩
          · rw [if_neg c2] at hq
            obtain ⟨rfl, oq⟩ := hq
            rw [if_neg (show ¬ a_c (s_add A0 r l wv) = 60 from c2)]
            refine ⟨⟨rfl, Tr, Un, L', G', _, _, _, _, ⟨⟨se_at.fr C2.1.1 (fun a ha => oq.2.1 a (by omega)), cp2'.fr (fun a ha hb => oq.2.1 a (by omega)), oq.1⟩, fun a ha => (oq.2.1 a (by omega)).trans (C2.2.1 a ha), oq.2.2.trans C2.2.2⟩, k1n, ?_, NN, ?_, ?_⟩, Or.inl rfl⟩
            · exact pk3
            · exact cs_tr_congr (A := s_add A0 r l wv) (Tr := Tr) (Un := Un) (a_sk A0) (fun e he => rfl) (fun j hj => ⟨rfl, rfl⟩) tr3
            · exact wy3
      clear pk3 oc3 NN tr3 wy3 C2 k3 k4 k5 k1n lt B1 hwv hw2 po pP pr pr2 en cp2' co2
      generalize ar_q h s I F W (s_out I F (s_add A0 r l wv) (a_n A0)) = Q at *
      generalize ocd (oc I F r) = x at *
      rw [← hl] at sO2
      refine am_go_of 20 [3, 16, 23, 28] _ c_Search_arrive_17 ?_
      simp (maxSteps := 2000000) (disch := omega) only [c_Search_arrive_0, c_Search_arrive_1, c_Search_arrive_2, c_Search_arrive_3, c_Search_arrive_4, c_Search_arrive_5, c_Search_arrive_6, c_Search_arrive_7, c_Search_arrive_8, c_Search_arrive_9, c_Search_arrive_10, c_Search_arrive_11, c_Search_arrive_12, c_Search_arrive_13, c_Search_arrive_14, c_Search_arrive_15, c_Search_arrive_16, c_Search_arrive_17, c_Search_arrive_18, c_Search_arrive_19, c_Search_arrive_20, c_Search_arrive_21, c_Search_arrive_22, c_Search_arrive_23, c_Search_arrive_24, c_Search_arrive_25, c_Search_arrive_26, c_Search_arrive_27, c_Search_arrive_28, c_Search_arrive_29, c_Search_arrive_30, c_Search_arrive_31, c_Search_arrive_32, c_Search_arrive_33, c_Search_arrive_34, c_Search_arrive_35, c_Search_arrive_36, c_Search_arrive_37, c_Search_arrive_38, c_Search_arrive_39, c_Search_arrive_40, c_Search_arrive_41, c_Search_arrive_42, c_Search_arrive_43, c_Search_arrive_44, c_Search_arrive_45, c_Search_arrive_46, c_Search_arrive_47, c_Search_arrive_48, c_Search_arrive_49, c_Search_arrive_50, c_Search_arrive_51, c_Search_arrive_52, c_Search_arrive_53, sx_aload_n, sx_bipush, sx_dup_i, sx_dup_r, sx_getfield, sx_iadd, sx_iastore, sx_iconst, sx_ifCond_ne, sx_if_icmp_gt, sx_if_icmp_ne, sx_iload_n, sx_ireturn, sx_istore_n, sx_putfield, sx_zreturn, am_W_s, am_W_0, am_mm_some, List.mem_cons, or_false, false_or, or_self, or_true, true_or, reduceIte, if_false, if_true, am_o_some, am_o_none, am_o_bad, am_o_good, am_ldi_hit, am_ldi_miss, am_lda_hit, am_lda_miss, am_ldl_hit, am_ldl_miss, am_inc_eq, am_inc_hit, am_inc_miss, am_ob_hit, am_fd_0, am_fd_s, am_ai_hit, am_ab_3, am_al_hit, am_aq_4, am_al0_hit, am_put_1, am_put_2, am_put_put, am_up_hit, am_up_miss, am_s1_eq, am_s2_eq, am_fl_nil, am_fl_hit, am_fl_int, am_fl_ref, am_fl_long, am_fl_longx, am_fl2_nil, am_fl2_hit, am_fl2_hit1, am_fl2_int, am_fl2_ref, am_fl2_long, List.not_mem_nil, not_false_eq_true, ne_eq, Nat.reduceAdd, Nat.reduceEqDiff, Nat.zero_add, Nat.add_left_cancel_iff, List.set_cons_zero, List.set_cons_succ, List.length_cons, List.length_nil, Nat.reduceLT, am_ft_i, am_ft_r, am_ft_z, and_true, true_and, Option.toList_some, Option.toList_none, List.cons_append, List.nil_append, List.drop_succ_cons, List.drop_zero, iI_c, iI_b, iI_s, iI_n, iI_add, iI_sub, iI_mul, iI_neg, iI_nle, iI_ix, iI_eq0, iI_eq1, iI_lt0, iI_0lt, iI_le0, iI_0le, iI_eq, iI_lt, iI_le, iI_upd, iI_updZ, Int.reduceEq, Int.reduceLT, Int.reduceLE, Int.reduceNeg, Int.reduceNe, sO2, se_fs_len, se_f0, se_f1, se_f2, se_f3, se_f4, se_f5, se_f6, se_s3, ru_fs_len, ru_f0, ru_f1, ru_f2, ru_f3, ru_f4, ru_f5, ru_f6, ru_f7, ru_f8, ru_f9, ru_f10, ru_f11, ru_f12, ru_f13, ru_s0, ru_t2, ru_l2, ru_t3, ru_l3, ru_t4, ru_l4, ru_t5, ru_l5, ru_t10, ru_l10, ru_t11, ru_l11, ru_t12, ru_l12, ru_t13, ru_l13, ru_t14, ru_l14, ru_t15, ru_l15, po_fs_len, po_f0, po_f1, po_f2, po_s0, ou_fs_len, ou_f0, ou_f1, ou_f2, ou_f3, ou_f4, ou_s0, lo_fs_len, lo_f0, lo_f1, lo_s0, rw_hit]
      refine am_go_call c_Search_arrive_23 (by decide) (by decide) (by first | (simp [am_can, am_kd, Value.category, hO2]; done) | (simp [am_can, am_kd, am_b, am_c, Value.category, hO2]; done) | (simp (disch := omega) [am_can, am_kd, am_b, am_c, Value.category, am_put_1, am_up_hit, am_up_miss, hO2]; done)) ?_
      refine CQ.mono (fun r9 h4 hr9 => ?_)
      obtain ⟨rfl, rfl⟩ := hr9
      refine am_go_of 10 [3, 16, 23, 28] _ c_Search_arrive_24 ?_
      simp (maxSteps := 2000000) (disch := omega) only [c_Search_arrive_0, c_Search_arrive_1, c_Search_arrive_2, c_Search_arrive_3, c_Search_arrive_4, c_Search_arrive_5, c_Search_arrive_6, c_Search_arrive_7, c_Search_arrive_8, c_Search_arrive_9, c_Search_arrive_10, c_Search_arrive_11, c_Search_arrive_12, c_Search_arrive_13, c_Search_arrive_14, c_Search_arrive_15, c_Search_arrive_16, c_Search_arrive_17, c_Search_arrive_18, c_Search_arrive_19, c_Search_arrive_20, c_Search_arrive_21, c_Search_arrive_22, c_Search_arrive_23, c_Search_arrive_24, c_Search_arrive_25, c_Search_arrive_26, c_Search_arrive_27, c_Search_arrive_28, c_Search_arrive_29, c_Search_arrive_30, c_Search_arrive_31, c_Search_arrive_32, c_Search_arrive_33, c_Search_arrive_34, c_Search_arrive_35, c_Search_arrive_36, c_Search_arrive_37, c_Search_arrive_38, c_Search_arrive_39, c_Search_arrive_40, c_Search_arrive_41, c_Search_arrive_42, c_Search_arrive_43, c_Search_arrive_44, c_Search_arrive_45, c_Search_arrive_46, c_Search_arrive_47, c_Search_arrive_48, c_Search_arrive_49, c_Search_arrive_50, c_Search_arrive_51, c_Search_arrive_52, c_Search_arrive_53, sx_aload_n, sx_bipush, sx_dup_i, sx_dup_r, sx_getfield, sx_iadd, sx_iastore, sx_iconst, sx_ifCond_ne, sx_if_icmp_gt, sx_if_icmp_ne, sx_iload_n, sx_ireturn, sx_istore_n, sx_putfield, sx_zreturn, am_W_s, am_W_0, am_mm_some, List.mem_cons, or_false, false_or, or_self, or_true, true_or, reduceIte, if_false, if_true, am_o_some, am_o_none, am_o_bad, am_o_good, am_ldi_hit, am_ldi_miss, am_lda_hit, am_lda_miss, am_ldl_hit, am_ldl_miss, am_inc_eq, am_inc_hit, am_inc_miss, am_ob_hit, am_fd_0, am_fd_s, am_ai_hit, am_ab_3, am_al_hit, am_aq_4, am_al0_hit, am_put_1, am_put_2, am_put_put, am_up_hit, am_up_miss, am_s1_eq, am_s2_eq, am_fl_nil, am_fl_hit, am_fl_int, am_fl_ref, am_fl_long, am_fl_longx, am_fl2_nil, am_fl2_hit, am_fl2_hit1, am_fl2_int, am_fl2_ref, am_fl2_long, List.not_mem_nil, not_false_eq_true, ne_eq, Nat.reduceAdd, Nat.reduceEqDiff, Nat.zero_add, Nat.add_left_cancel_iff, List.set_cons_zero, List.set_cons_succ, List.length_cons, List.length_nil, Nat.reduceLT, am_ft_i, am_ft_r, am_ft_z, and_true, true_and, Option.toList_some, Option.toList_none, List.cons_append, List.nil_append, List.drop_succ_cons, List.drop_zero, iI_c, iI_b, iI_s, iI_n, iI_add, iI_sub, iI_mul, iI_neg, iI_nle, iI_ix, iI_eq0, iI_eq1, iI_lt0, iI_0lt, iI_le0, iI_0le, iI_eq, iI_lt, iI_le, iI_upd, iI_updZ, Int.reduceEq, Int.reduceLT, Int.reduceLE, Int.reduceNeg, Int.reduceNe, sO2, se_fs_len, se_f0, se_f1, se_f2, se_f3, se_f4, se_f5, se_f6, se_s3, ru_fs_len, ru_f0, ru_f1, ru_f2, ru_f3, ru_f4, ru_f5, ru_f6, ru_f7, ru_f8, ru_f9, ru_f10, ru_f11, ru_f12, ru_f13, ru_s0, ru_t2, ru_l2, ru_t3, ru_l3, ru_t4, ru_l4, ru_t5, ru_l5, ru_t10, ru_l10, ru_t11, ru_l11, ru_t12, ru_l12, ru_t13, ru_l13, ru_t14, ru_l14, ru_t15, ru_l15, po_fs_len, po_f0, po_f1, po_f2, po_s0, ou_fs_len, ou_f0, ou_f1, ou_f2, ou_f3, ou_f4, ou_s0, lo_fs_len, lo_f0, lo_f1, lo_s0, rw_hit]
      refine am_go_call c_Search_arrive_28 (by decide) (by decide) (by first | (simp [am_can, am_kd, Value.category, coO]; done) | (simp [am_can, am_kd, am_b, am_c, Value.category, coO]; done) | (simp (disch := omega) [am_can, am_kd, am_b, am_c, Value.category, am_put_1, am_up_hit, am_up_miss, coO]; done)) ?_
      refine CW.mono (fun r9 h5 hr9 => ?_)
      obtain ⟨g, y⟩ := fin r9 h5 hr9
      clear fin CQ CW
      rcases y with rfl | rfl
      · refine am_go_of 5 [3, 16, 23, 28] _ c_Search_arrive_29 ?_
        simp (maxSteps := 2000000) (disch := omega) only [c_Search_arrive_0, c_Search_arrive_1, c_Search_arrive_2, c_Search_arrive_3, c_Search_arrive_4, c_Search_arrive_5, c_Search_arrive_6, c_Search_arrive_7, c_Search_arrive_8, c_Search_arrive_9, c_Search_arrive_10, c_Search_arrive_11, c_Search_arrive_12, c_Search_arrive_13, c_Search_arrive_14, c_Search_arrive_15, c_Search_arrive_16, c_Search_arrive_17, c_Search_arrive_18, c_Search_arrive_19, c_Search_arrive_20, c_Search_arrive_21, c_Search_arrive_22, c_Search_arrive_23, c_Search_arrive_24, c_Search_arrive_25, c_Search_arrive_26, c_Search_arrive_27, c_Search_arrive_28, c_Search_arrive_29, c_Search_arrive_30, c_Search_arrive_31, c_Search_arrive_32, c_Search_arrive_33, c_Search_arrive_34, c_Search_arrive_35, c_Search_arrive_36, c_Search_arrive_37, c_Search_arrive_38, c_Search_arrive_39, c_Search_arrive_40, c_Search_arrive_41, c_Search_arrive_42, c_Search_arrive_43, c_Search_arrive_44, c_Search_arrive_45, c_Search_arrive_46, c_Search_arrive_47, c_Search_arrive_48, c_Search_arrive_49, c_Search_arrive_50, c_Search_arrive_51, c_Search_arrive_52, c_Search_arrive_53, sx_aload_n, sx_bipush, sx_dup_i, sx_dup_r, sx_getfield, sx_iadd, sx_iastore, sx_iconst, sx_ifCond_ne, sx_if_icmp_gt, sx_if_icmp_ne, sx_iload_n, sx_ireturn, sx_istore_n, sx_putfield, sx_zreturn, am_W_s, am_W_0, am_mm_some, List.mem_cons, or_false, false_or, or_self, or_true, true_or, reduceIte, if_false, if_true, am_o_some, am_o_none, am_o_bad, am_o_good, am_ldi_hit, am_ldi_miss, am_lda_hit, am_lda_miss, am_ldl_hit, am_ldl_miss, am_inc_eq, am_inc_hit, am_inc_miss, am_ob_hit, am_fd_0, am_fd_s, am_ai_hit, am_ab_3, am_al_hit, am_aq_4, am_al0_hit, am_put_1, am_put_2, am_put_put, am_up_hit, am_up_miss, am_s1_eq, am_s2_eq, am_fl_nil, am_fl_hit, am_fl_int, am_fl_ref, am_fl_long, am_fl_longx, am_fl2_nil, am_fl2_hit, am_fl2_hit1, am_fl2_int, am_fl2_ref, am_fl2_long, List.not_mem_nil, not_false_eq_true, ne_eq, Nat.reduceAdd, Nat.reduceEqDiff, Nat.zero_add, Nat.add_left_cancel_iff, List.set_cons_zero, List.set_cons_succ, List.length_cons, List.length_nil, Nat.reduceLT, am_ft_i, am_ft_r, am_ft_z, and_true, true_and, Option.toList_some, Option.toList_none, List.cons_append, List.nil_append, List.drop_succ_cons, List.drop_zero, iI_c, iI_b, iI_s, iI_n, iI_add, iI_sub, iI_mul, iI_neg, iI_nle, iI_ix, iI_eq0, iI_eq1, iI_lt0, iI_0lt, iI_le0, iI_0le, iI_eq, iI_lt, iI_le, iI_upd, iI_updZ, Int.reduceEq, Int.reduceLT, Int.reduceLE, Int.reduceNeg, Int.reduceNe, se_fs_len, se_f0, se_f1, se_f2, se_f3, se_f4, se_f5, se_f6, se_s3, ru_fs_len, ru_f0, ru_f1, ru_f2, ru_f3, ru_f4, ru_f5, ru_f6, ru_f7, ru_f8, ru_f9, ru_f10, ru_f11, ru_f12, ru_f13, ru_s0, ru_t2, ru_l2, ru_t3, ru_l3, ru_t4, ru_l4, ru_t5, ru_l5, ru_t10, ru_l10, ru_t11, ru_l11, ru_t12, ru_l12, ru_t13, ru_l13, ru_t14, ru_l14, ru_t15, ru_l15, po_fs_len, po_f0, po_f1, po_f2, po_s0, ou_fs_len, ou_f0, ou_f1, ou_f2, ou_f3, ou_f4, ou_s0, lo_fs_len, lo_f0, lo_f1, lo_s0, rw_hit]
        exact g
      · refine am_go_of 5 [3, 16, 23, 28] _ c_Search_arrive_29 ?_
        simp (maxSteps := 2000000) (disch := omega) only [c_Search_arrive_0, c_Search_arrive_1, c_Search_arrive_2, c_Search_arrive_3, c_Search_arrive_4, c_Search_arrive_5, c_Search_arrive_6, c_Search_arrive_7, c_Search_arrive_8, c_Search_arrive_9, c_Search_arrive_10, c_Search_arrive_11, c_Search_arrive_12, c_Search_arrive_13, c_Search_arrive_14, c_Search_arrive_15, c_Search_arrive_16, c_Search_arrive_17, c_Search_arrive_18, c_Search_arrive_19, c_Search_arrive_20, c_Search_arrive_21, c_Search_arrive_22, c_Search_arrive_23, c_Search_arrive_24, c_Search_arrive_25, c_Search_arrive_26, c_Search_arrive_27, c_Search_arrive_28, c_Search_arrive_29, c_Search_arrive_30, c_Search_arrive_31, c_Search_arrive_32, c_Search_arrive_33, c_Search_arrive_34, c_Search_arrive_35, c_Search_arrive_36, c_Search_arrive_37, c_Search_arrive_38, c_Search_arrive_39, c_Search_arrive_40, c_Search_arrive_41, c_Search_arrive_42, c_Search_arrive_43, c_Search_arrive_44, c_Search_arrive_45, c_Search_arrive_46, c_Search_arrive_47, c_Search_arrive_48, c_Search_arrive_49, c_Search_arrive_50, c_Search_arrive_51, c_Search_arrive_52, c_Search_arrive_53, sx_aload_n, sx_bipush, sx_dup_i, sx_dup_r, sx_getfield, sx_iadd, sx_iastore, sx_iconst, sx_ifCond_ne, sx_if_icmp_gt, sx_if_icmp_ne, sx_iload_n, sx_ireturn, sx_istore_n, sx_putfield, sx_zreturn, am_W_s, am_W_0, am_mm_some, List.mem_cons, or_false, false_or, or_self, or_true, true_or, reduceIte, if_false, if_true, am_o_some, am_o_none, am_o_bad, am_o_good, am_ldi_hit, am_ldi_miss, am_lda_hit, am_lda_miss, am_ldl_hit, am_ldl_miss, am_inc_eq, am_inc_hit, am_inc_miss, am_ob_hit, am_fd_0, am_fd_s, am_ai_hit, am_ab_3, am_al_hit, am_aq_4, am_al0_hit, am_put_1, am_put_2, am_put_put, am_up_hit, am_up_miss, am_s1_eq, am_s2_eq, am_fl_nil, am_fl_hit, am_fl_int, am_fl_ref, am_fl_long, am_fl_longx, am_fl2_nil, am_fl2_hit, am_fl2_hit1, am_fl2_int, am_fl2_ref, am_fl2_long, List.not_mem_nil, not_false_eq_true, ne_eq, Nat.reduceAdd, Nat.reduceEqDiff, Nat.zero_add, Nat.add_left_cancel_iff, List.set_cons_zero, List.set_cons_succ, List.length_cons, List.length_nil, Nat.reduceLT, am_ft_i, am_ft_r, am_ft_z, and_true, true_and, Option.toList_some, Option.toList_none, List.cons_append, List.nil_append, List.drop_succ_cons, List.drop_zero, iI_c, iI_b, iI_s, iI_n, iI_add, iI_sub, iI_mul, iI_neg, iI_nle, iI_ix, iI_eq0, iI_eq1, iI_lt0, iI_0lt, iI_le0, iI_0le, iI_eq, iI_lt, iI_le, iI_upd, iI_updZ, Int.reduceEq, Int.reduceLT, Int.reduceLE, Int.reduceNeg, Int.reduceNe, se_fs_len, se_f0, se_f1, se_f2, se_f3, se_f4, se_f5, se_f6, se_s3, ru_fs_len, ru_f0, ru_f1, ru_f2, ru_f3, ru_f4, ru_f5, ru_f6, ru_f7, ru_f8, ru_f9, ru_f10, ru_f11, ru_f12, ru_f13, ru_s0, ru_t2, ru_l2, ru_t3, ru_l3, ru_t4, ru_l4, ru_t5, ru_l5, ru_t10, ru_l10, ru_t11, ru_l11, ru_t12, ru_l12, ru_t13, ru_l13, ru_t14, ru_l14, ru_t15, ru_l15, po_fs_len, po_f0, po_f1, po_f2, po_s0, ou_fs_len, ou_f0, ou_f1, ou_f2, ou_f3, ou_f4, ou_s0, lo_fs_len, lo_f0, lo_f1, lo_s0, rw_hit]
        exact g
