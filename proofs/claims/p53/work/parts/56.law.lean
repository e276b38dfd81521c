/-! ===== the law ===== -/
theorem lwr_c : 100000 ≤ room_1.cells := Nat.le_of_ble_eq_true rfl
theorem lwr_s : 3000000 ≤ room_1.slots := Nat.le_of_ble_eq_true rfl
abbrev mL_law : MI := (yL_law, cL_law, 11, (Option.some Jvm.ClassFile.FieldType.boolean), [], room_1)
theorem wNRL_8 : Cond.classLink RL 8 "SilentOpera" ∈ GW ∧ Cond.instantiable "SilentOpera" 10 ∈ GW ∧ Cond.initialized "SilentOpera" ∈ GW := ⟨gw_tab 35 (by decide +kernel) (by decide +kernel), gw_tab 36 (by decide +kernel) (by decide +kernel), gw_tab 1 (by decide +kernel) (by decide +kernel)⟩
abbrev FL (X : KX) : FT := zF X mL_law (zM (some (.int 1)) (fun _ => True))
theorem cmp0 (a : Int64) : lg_cmp a a = 0 := by
  unfold lg_cmp
  rw [if_neg (by simp), if_pos rfl]
theorem nI_sub {a b : Nat} (h : b ≤ a) : nI a - nI b = nI (a - b) := by
  have : nI a = nI (a - b) + nI b := by rw [nI_add]; congr 1; omega
  rw [this, Int32.add_sub_cancel]
theorem asks_f {X : KX} (hxs : X.1.stackTraces = false) (hg : GX X) (hg2 : GP2 X) {x : Nat} {S : SH} {past : List SH} {N : SH} {hs le lc lf : Int32} {txt ln : List Int32} {h : AH} {A : Nat} (hA : A < h.1) (hxA : x + 185 ≤ A) (p : OpF X (fun q => decide (q = A)) h x S past N hs le lc lf txt ln) {B K T : Nat} (hI : Inv B K T S) (hB : B < 10000) (hK : K < 998) : Ct X mL_asks [.ref x] h (zM (some (.long (Asks S))) (fun h' => ∃ ln1, OpF X (fun q => decide (q = A)) h' x S past N hs le lc lf txt ln1 ∧ h.1 ≤ h'.1 ∧ h'.2 A = h.2 A)) := by
  obtain ⟨n, hn6, hn⟩ := hI.2.2.2.2.2.2.2.2.2.1
  refine (Ct.op (R := fun o a1 a2 a3 a4 a5 a6 a7 a8 a9 => o = .inl (some (.long (Asks S))) ∧ a1 = S ∧ a2 = past ∧ a3 = N ∧ a4 = hs ∧ a5 = le ∧ a6 = lc ∧ a7 = lf ∧ a8 = txt) hg hg2 p (fun q hq => by have := of_decide_eq_true hq; omega) (fun q hq => by have := of_decide_eq_true hq; omega) (fun X' h0 e1 e2 e3 e4 => (c_L_asks (by rw [e1]; exact hxs) e2 e4 hI hB hK hn hn6).weak (fun o h' hz => ?_))).weak (fun o h' hz => ?_)
  · obtain ⟨e, ln1, q⟩ := hz
    exact ⟨_, _, _, _, _, _, _, _, _, ⟨e, rfl, rfl, rfl, rfl, rfl, rfl, rfl, rfl⟩, q⟩
  · obtain ⟨a1, a2, a3, a4, a5, a6, a7, a8, a9, ⟨e, rfl, rfl, rfl, rfl, rfl, rfl, rfl, rfl⟩, q1, -, q3, q4⟩ := hz
    exact ⟨e, a9, q1, q3, q4 A (decide_eq_true rfl)⟩
theorem undo1_f {X : KX} (hxs : X.1.stackTraces = false) (hg : GX X) (hg2 : GP2 X) {x : Nat} {S : SH} {past : List SH} {N : SH} {hs le lc lf : Int32} {txt ln : List Int32} {a : SH} {h : AH} {A : Nat} (hA : A < h.1) (hxA : x + 185 ≤ A) (p : OpF X (fun q => decide (q = A)) h x S (a :: past) N hs le lc lf txt ln) : Ct X mL_undo [.ref x] h (zM (some (.int (nI past.length))) (fun h' => OpF X (fun q => decide (q = A)) h' x a past N hs le lc lf txt ln ∧ h.1 ≤ h'.1 ∧ h'.2 A = h.2 A)) :=
  (Ct.opM hg hg2 p (fun q hq => by have := of_decide_eq_true hq; omega) (fun q hq => by have := of_decide_eq_true hq; omega) (fun X' h0 e1 e2 e3 e4 => c_L_undo1 (by rw [e1]; exact hxs) e2 e4)).weak (fun o h' hz => ⟨hz.1, hz.2.1, hz.2.2.2.1, hz.2.2.2.2 A (decide_eq_true rfl)⟩)
theorem undo0_f {X : KX} (hxs : X.1.stackTraces = false) (hg : GX X) (hg2 : GP2 X) {x : Nat} {S : SH} {N : SH} {hs le lc lf : Int32} {txt ln : List Int32} {h : AH} {A : Nat} (hA : A < h.1) (hxA : x + 185 ≤ A) (p : OpF X (fun q => decide (q = A)) h x S [] N hs le lc lf txt ln) : Ct X mL_undo [.ref x] h (zM (some (.int (-1001))) (fun h' => OpF X (fun q => decide (q = A)) h' x S [] N hs le lc lf txt ln ∧ h.1 ≤ h'.1 ∧ h'.2 A = h.2 A)) :=
  (Ct.opM hg hg2 p (fun q hq => by have := of_decide_eq_true hq; omega) (fun q hq => by have := of_decide_eq_true hq; omega) (fun X' h0 e1 e2 e3 e4 => c_L_undo0 (by rw [e1]; exact hxs) e2 e4)).weak (fun o h' hz => ⟨hz.1, hz.2.1, hz.2.2.2.1, hz.2.2.2.2 A (decide_eq_true rfl)⟩)
theorem restore1_f {X : KX} (hxs : X.1.stackTraces = false) (hg : GX X) (hg2 : GP2 X) {x : Nat} {S : SH} {past : List SH} {N : SH}  {le lc lf : Int32} {txt ln : List Int32} {h : AH} {A : Nat} (hA : A < h.1) (hxA : x + 185 ≤ A) (p : OpF X (fun q => decide (q = A)) h x S past N 1 le lc lf txt ln) : Ct X mL_restore [.ref x] h (zM (some (.int (z_count N))) (fun h' => OpF X (fun q => decide (q = A)) h' x N [] N 1 le lc lf txt ln ∧ h.1 ≤ h'.1 ∧ h'.2 A = h.2 A)) :=
  (Ct.opM hg hg2 p (fun q hq => by have := of_decide_eq_true hq; omega) (fun q hq => by have := of_decide_eq_true hq; omega) (fun X' h0 e1 e2 e3 e4 => c_L_restore1 (by rw [e1]; exact hxs) e2 e4)).weak (fun o h' hz => ⟨hz.1, hz.2.1, hz.2.2.2.1, hz.2.2.2.2 A (decide_eq_true rfl)⟩)
set_option maxRecDepth 20000 in
set_option maxHeartbeats 8000000 in
theorem law_700 {X : KX} (hxs : X.1.stackTraces = false) (hg : GX X) (hg2 : GP2 X) {x : Nat} {S : SH} {N : SH} {le lc lf : Int32} {txt ln : List Int32} {h : AH} {A : Nat} (hA : A < h.1) (hxA : x + 185 ≤ A) {B K T0 : Nat} (hI : Inv B K T0 N) (hB : B < 10000) (hK : K < 998) (hF : OpF X (fun q => decide (q = A)) h x S [] N 1 le lc lf txt ln) : V X mL_law (FL X) 80000 2600000 700 [(0, .ref (kb X)), (2, .ref x), (3, .long (Asks N)), (5, .int (z_count N))] [] h := by
  obtain ⟨n6, hn6, hn⟩ := hI.2.2.2.2.2.2.2.2.2.1
  refine V_aload_n dL_law_700 1 rfl ?_
  refine V_cSHi (As := [.ref x]) (rest := []) dL_law_701 cvL_319 (undo0_f hxs hg hg2 hA hxA hF) ⟨Nat.le_of_ble_eq_true rfl, Nat.le_of_ble_eq_true rfl, by show 80000 + 1 ≤ room_1.cells; have := lwr_c; omega, by show 2600000 + 6 ≤ room_1.slots; have := lwr_s; omega⟩ (Nat.le_of_ble_eq_true rfl) rfl (fun h1 q1 => ?_)
  obtain ⟨hF1, hz1, -⟩ := q1
  refine V_sipush (v := (-1001)) dL_law_704 (by decide) ?_
  refine V_icmp_ne (tgt := 742) dL_law_707 (by decide) (fun c9 => absurd c9 (fun q9 => q9 rfl)) (fun _ => ?_)
  refine V_aload_n dL_law_710 1 rfl ?_
  refine V_cSHi (As := [.ref x]) (rest := []) dL_law_711 cvL_321 (restore1_f hxs hg hg2 (Nat.lt_of_lt_of_le hA hz1) hxA hF1) ⟨Nat.le_of_ble_eq_true rfl, Nat.le_of_ble_eq_true rfl, by show 80000 + 1 + 1 ≤ room_1.cells; have := lwr_c; omega, by show 2600000 + 6 + 6 ≤ room_1.slots; have := lwr_s; omega⟩ (Nat.le_of_ble_eq_true rfl) rfl (fun h2 q2 => ?_)
  obtain ⟨hF2, hz2, -⟩ := q2
  refine V_iload dL_law_714 3 rfl ?_
  refine V_icmp_ne (tgt := 742) dL_law_716 (by decide) (fun c9 => absurd c9 (fun q9 => q9 rfl)) (fun _ => ?_)
  refine V_aload_n dL_law_719 1 rfl ?_
  refine V_cSg (As := [.ref x]) (rest := []) dL_law_720 cvL_281 (asks_f hxs hg hg2 (Nat.lt_of_lt_of_le hA (Nat.le_trans hz1 hz2)) hxA hF2 hI hB hK) ⟨Nat.le_of_ble_eq_true rfl, Nat.le_of_ble_eq_true rfl, by show 80000 + 1 + 1 + 2048 ≤ room_1.cells; have := lwr_c; omega, by show 2600000 + 6 + 6 + 65536 ≤ room_1.slots; have := lwr_s; omega⟩ (Nat.le_of_ble_eq_true rfl) rfl (fun h3 q3 => ?_)
  obtain ⟨ln3, hF3, hz3, -⟩ := q3
  refine V_lload_n dL_law_723 2 rfl ?_
  refine V_lcmp dL_law_724 ?_
  refine V_if_ne (tgt := 742) dL_law_725 (by decide) (fun c9 => absurd c9 (fun q9 => q9 (cmp0 _))) (fun _ => ?_)
  refine V_aload_n dL_law_728 1 rfl ?_
  refine V_cSHi (As := [.ref x]) (rest := []) dL_law_729 cvL_319 (undo0_f hxs hg hg2 (Nat.lt_of_lt_of_le hA (Nat.le_trans hz1 (Nat.le_trans hz2 hz3))) hxA hF3) ⟨Nat.le_of_ble_eq_true rfl, Nat.le_of_ble_eq_true rfl, by show 80000 + 1 + 1 + 2048 + 1 ≤ room_1.cells; have := lwr_c; omega, by show 2600000 + 6 + 6 + 65536 + 6 ≤ room_1.slots; have := lwr_s; omega⟩ (Nat.le_of_ble_eq_true rfl) rfl (fun h4 q4 => ?_)
  refine V_sipush (v := (-1001)) dL_law_732 (by decide) ?_
  refine V_icmp_ne (tgt := 742) dL_law_735 (by decide) (fun c9 => absurd c9 (fun q9 => q9 rfl)) (fun _ => ?_)
  refine V_iconst (v := 1) dL_law_738 (by decide) ?_
  refine V_goto (tgt := 743) dL_law_739 (by decide) ?_
  exact V_zret dL_law_743 rfl bN1 ⟨by show 80000 + 1 + 1 + 2048 + 1 ≤ room_1.cells; have := lwr_c; omega, by show 2600000 + 6 + 6 + 65536 + 6 ≤ room_1.slots; have := lwr_s; omega⟩ ⟨rfl, trivial⟩
def wasOK (W : List Int64) (past : List SH) : Prop := W.length = 9 ∧ ∀ j, j < past.length → W.getD j 0 = Asks (past.getD (past.length - 1 - j) S0)
theorem wasOK_tl {W : List Int64} {a : SH} {past : List SH} (h : wasOK W (a :: past)) : W.getD past.length 0 = Asks a ∧ wasOK W past := by
  refine ⟨?_, h.1, fun j hj => ?_⟩
  · have := h.2 past.length (by simp)
    rw [this]
    simp
  · have := h.2 j (by simp; omega)
    rw [this]
    have e : (a :: past).length - 1 - j = (past.length - 1 - j) + 1 := by simp; omega
    rw [e]
    simp
theorem wasOK_cons {W : List Int64} {S : SH} {past : List SH} (h : wasOK W past) (hl : past.length < 9) : wasOK (wrJ W (nI past.length) (Asks S)) (S :: past) := by
  refine ⟨by unfold wrJ; rw [List.length_set]; exact h.1, fun j hj => ?_⟩
  unfold wrJ
  rw [nI_clamp (by omega)]
  have h9 := h.1
  by_cases c : j = past.length
  · subst c
    simp [List.getD_eq_getElem?_getD, List.getElem?_set, h9, hl]
  · have hj2 : j < past.length := by simp at hj; omega
    have e : (S :: past).length - 1 - j = (past.length - 1 - j) + 1 := by simp; omega
    rw [e]
    have := h.2 j hj2
    rw [List.getD_cons_succ, ← this]
    simp [List.getD_eq_getElem?_getD, List.getElem?_set_ne (fun e => c e.symm)]
set_option maxRecDepth 20000 in
set_option maxHeartbeats 8000000 in
theorem law_657 {X : KX} (hxs : X.1.stackTraces = false) (hg : GX X) (hg2 : GP2 X) {x : Nat} {N : SH} {le lc lf : Int32} {txt : List Int32} {A d : Nat} (hd : d ≤ 8) (hxA : x + 185 ≤ A) {W : List Int64} {B K T0 : Nat} (hI : Inv B K T0 N) (hB : B < 10000) (hK : K < 998) : ∀ (past : List SH) (k : Nat) (S : SH) (h : AH), A < h.1 → past.length + k = d + 1 → (∃ ln, OpF X (fun q => decide (q = A)) h x S past N 1 le lc lf txt ln) → wasOK W past → h.2 A = some (aJ (kA X 3) W) → (∀ s ∈ past, Inv 9000 900 900 s) → V X mL_law (FL X) (60000 + 2100 * k) (2000000 + 66000 * k) 657 [(0, .ref (kb X)), (2, .ref x), (3, .long (Asks N)), (5, .int (z_count N)), (6, .ref A), (7, .int (nI d)), (8, .int (nI k))] [] h := by
  intro past
  induction past with
  | nil =>
    intro k S h hA hl ⟨ln, hF⟩ hwas hw hP
    have ek : d < k := by simp at hl; omega
    refine V_iload dL_law_657 6 rfl ?_
    refine V_iload dL_law_659 5 rfl ?_
    refine V_icmp_gt (tgt := 700) dL_law_661 (by decide) (fun _ => ?_) (fun c9 => absurd (nI_lt ek (by omega)) c9)
    refine V.loc [0, 1, 2, 3] rfl ?_
    have hl9 : k ≤ 9 := by simp at hl; omega
    refine V.wide (show 60000 + 2100 * k ≤ 80000 by omega) (show 2000000 + 66000 * k ≤ 2600000 by omega) ?_
    exact law_700 hxs hg hg2 hA hxA hI hB hK hF
  | cons a past ih =>
    intro k S h hA hl ⟨ln, hF⟩ hwas hw hP
    have ek : ¬ d < k := by simp at hl; omega
    have el : past.length = d - k := by simp at hl; omega
    obtain ⟨ew, hwas1⟩ := wasOK_tl hwas
    have hPa := hP a (by simp)
    obtain ⟨na, hna6, hna⟩ := hPa.2.2.2.2.2.2.2.2.2.1
    refine V_iload dL_law_657 6 rfl ?_
    refine V_iload dL_law_659 5 rfl ?_
    refine V_icmp_gt (tgt := 700) dL_law_661 (by decide) (fun c9 => absurd c9 (nI_nlt (by omega) (by omega))) (fun _ => ?_)
    refine V_aload_n dL_law_664 1 rfl ?_
    refine V_cSHi (As := [.ref x]) (rest := []) dL_law_665 cvL_319 (undo1_f hxs hg hg2 hA hxA hF) ⟨Nat.le_of_ble_eq_true rfl, Nat.le_of_ble_eq_true rfl, by show (60000 + 2100 * k) + 1 ≤ room_1.cells; have := lwr_c; omega, by show (2000000 + 66000 * k) + 6 ≤ room_1.slots; have := lwr_s; omega⟩ (Nat.le_of_ble_eq_true rfl) rfl (fun h1 q1 => ?_)
    obtain ⟨hF1, hz1, hw1⟩ := q1
    refine V_iload dL_law_668 5 rfl ?_
    refine V_iload dL_law_670 6 rfl ?_
    refine V_isub dL_law_672 ?_
    refine V_icmp_ne (tgt := 692) dL_law_673 (by decide) (fun c9 => absurd c9 (fun q9 => q9 (by rw [nI_sub (show k ≤ d by omega), el]))) (fun _ => ?_)
    refine V_aload_n dL_law_676 1 rfl ?_
    refine V_cSg (As := [.ref x]) (rest := []) dL_law_677 cvL_281 (asks_f hxs hg hg2 (Nat.lt_of_lt_of_le hA hz1) hxA hF1 hPa (by omega) (by omega)) ⟨Nat.le_of_ble_eq_true rfl, Nat.le_of_ble_eq_true rfl, by show (60000 + 2100 * k) + 1 + 2048 ≤ room_1.cells; have := lwr_c; omega, by show (2000000 + 66000 * k) + 6 + 65536 ≤ room_1.slots; have := lwr_s; omega⟩ (Nat.le_of_ble_eq_true rfl) rfl (fun h2 q2 => ?_)
    obtain ⟨ln2, hF2, hz2, hw2⟩ := q2
    refine V_aload dL_law_680 4 rfl ?_
    refine V_iload dL_law_682 5 rfl ?_
    refine V_iload dL_law_684 6 rfl ?_
    refine V_isub dL_law_686 ?_
    rw [nI_sub (show k ≤ d by omega), ← el]
    refine V_lald (L := W) dL_law_687 (hw2.trans (hw1.trans hw)) (vp_in_nI (by rw [hwas.1]; omega) (by rw [hwas.1]; omega)) ?_
    rw [nI_clamp (by omega), ew]
    refine V_lcmp dL_law_688 ?_
    refine V_if_eq (tgt := 694) dL_law_689 (by decide) (fun _ => ?_) (fun c9 => absurd (cmp0 _) c9)
    refine V_iinc (v := nI (k + 1)) (lv' := [(8, .int (nI (k + 1))), (0, .ref (kb X)), (2, .ref x), (3, .long (Asks N)), (5, .int (z_count N)), (6, .ref A), (7, .int (nI d))]) dL_law_694 6 rfl (iinc1 k) (by decide) rfl ?_
    refine V_goto (tgt := 657) dL_law_697 (by decide) ?_
    refine V.loc [1, 2, 3, 4, 5, 6, 0] rfl ?_
    refine V.wide (show (60000 + 2100 * k) + 1 + 2048 ≤ 60000 + 2100 * (k + 1) by omega) (show (2000000 + 66000 * k) + 6 + 65536 ≤ 2000000 + 66000 * (k + 1) by omega) ?_
    exact ih (k + 1) a h2 (Nat.lt_of_lt_of_le hA (Nat.le_trans hz1 hz2)) (by simp at hl; omega) ⟨_, hF2⟩ hwas1 (hw2.trans (hw1.trans hw)) (fun s hs => hP s (by simp [hs]))
set_option maxRecDepth 20000 in
set_option maxHeartbeats 16000000 in
theorem law_587 {X : KX} (hxs : X.1.stackTraces = false) (hg : GX X) (hg2 : GP2 X) (hL : kL X ≤ 260) {x : Nat} {N : SH} {A : Nat} (hxA : x + 185 ≤ A) {B K T0 : Nat} (hI : Inv B K T0 N) (hB : B < 10000) (hK : K < 998) : ∀ (g i : Nat) (S : SH) (past : List SH) (W : List Int64) (le lc lf : Int32) (ln : List Int32) (h : AH), A < h.1 → i + g = 8 → past.length ≤ i → Inv (864 + 720 * i) (14 + i) (6 + 5 * i) S → (∀ s ∈ past, Inv 9000 900 900 s) → wasOK W past → OpF X (fun q => decide (q = A)) h x S past N 1 le lc lf [] ln → h.2 A = some (aJ (kA X 3) W) → V X mL_law (FL X) (25000 + 4300 * i) (800000 + 150000 * i) 587 [(0, .ref (kb X)), (2, .ref x), (3, .long (Asks N)), (5, .int (z_count N)), (6, .ref A), (7, .int (nI past.length)), (8, .int (nI i))] [] h := by
  intro g
  induction g with
  | zero =>
    intro i S past W le lc lf ln h hA hi hl hI1 hP hwas hF hw
    obtain rfl : i = 8 := by omega
    refine V_iload dL_law_587 6 rfl ?_
    refine V_bipush (v := 8) dL_law_589 (by decide) ?_
    refine V_icmp_ge (tgt := 654) dL_law_591 (by decide) (fun _ => ?_) (fun c9 => absurd (show (8 : Int32) ≤ nI 8 by decide) c9)
    refine V_iconst (v := 1) dL_law_654 (by decide) ?_
    refine V_istore (lv' := [(8, .int 1), (0, .ref (kb X)), (2, .ref x), (3, .long (Asks N)), (5, .int (z_count N)), (6, .ref A), (7, .int (nI past.length))]) dL_law_655 (by decide) rfl ?_
    refine V.loc [1, 2, 3, 4, 5, 6, 0] rfl ?_
    refine V.wide (k' := 60000 + 2100 * 1) (n' := 2000000 + 66000 * 1) (by omega) (by omega) ?_
    exact law_657 hxs hg hg2 (by omega) hxA hI hB hK past 1 S h hA rfl ⟨ln, hF⟩ hwas hw hP
  | succ g ih =>
    intro i S past W le lc lf ln h hA hi hl hI1 hP hwas hF hw
    have hi9 : i < 8 := by omega
    have e20 : (20 + nI i : Int32) = nI (20 + i) := by rw [← nI_add]; rfl
    refine V_iload dL_law_587 6 rfl ?_
    refine V_bipush (v := 8) dL_law_589 (by decide) ?_
    refine V_icmp_ge (tgt := 654) dL_law_591 (by decide) (fun c9 => absurd c9 (show ¬ (8 : Int32) ≤ nI i from nI_ge (a := i) (b := 8) hi9 (by omega))) (fun _ => ?_)
    refine V_aload_n dL_law_594 1 rfl ?_
    refine V_cSg (As := [.ref x]) (rest := []) dL_law_595 cvL_281 (asks_f hxs hg hg2 hA hxA hF hI1 (by omega) (by omega)) ⟨Nat.le_of_ble_eq_true rfl, Nat.le_of_ble_eq_true rfl, by show (25000 + 4300 * i) + 2048 ≤ room_1.cells; have := lwr_c; omega, by show (800000 + 150000 * i) + 65536 ≤ room_1.slots; have := lwr_s; omega⟩ (Nat.le_of_ble_eq_true rfl) rfl (fun h1 q1 => ?_)
    obtain ⟨ln1, hF1, hz1, hw1⟩ := q1
    have hA1 := Nat.lt_of_lt_of_le hA hz1
    refine V_lstore (lv' := [(9, .long (Asks S)), (0, .ref (kb X)), (2, .ref x), (3, .long (Asks N)), (5, .int (z_count N)), (6, .ref A), (7, .int (nI past.length)), (8, .int (nI i))]) dL_law_598 (by decide) rfl ?_
    refine V_aload_n dL_law_600 2 rfl ?_
    refine V_aload_n dL_law_601 1 rfl ?_
    refine V_bipush (v := 20) dL_law_602 (by decide) ?_
    refine V_iload dL_law_604 7 rfl ?_
    refine V_iadd dL_law_606 ?_
    refine V_cSg (As := [.ref (kb X), .int (20 + nI i)]) (rest := [.ref x]) dL_law_607 cvL_160 (by rw [e20]; exact c_L_at hxs (by omega) hL) ⟨Nat.le_of_ble_eq_true rfl, Nat.le_of_ble_eq_true rfl, by show (25000 + 4300 * i) + 2048 + 0 ≤ room_1.cells; have := lwr_c; omega, by show (800000 + 150000 * i) + 65536 + 0 ≤ room_1.slots; have := lwr_s; omega⟩ (Nat.le_of_ble_eq_true rfl) rfl (fun h2 e2 => ?_)
    have e2s := e2.symm
    subst e2s
    refine V_iload dL_law_610 7 rfl ?_
    refine V_sipush (v := 977) dL_law_612 (by decide) ?_
    refine V_imul dL_law_615 ?_
    refine V_ixor dL_law_616 ?_
    have kc : ∀ (h4 : AH) (S1 : SH) (past1 : List SH) (W1 : List Int64) (le1 lc1 lf1 : Int32) (ln1 : List Int32) (k1 n1 : Nat), k1 ≤ 25000 + 4300 * (i + 1) → n1 ≤ 800000 + 150000 * (i + 1) → A < h4.1 → past1.length ≤ i + 1 → Inv (864 + 720 * (i + 1)) (14 + (i + 1)) (6 + 5 * (i + 1)) S1 → (∀ s ∈ past1, Inv 9000 900 900 s) → wasOK W1 past1 → OpF X (fun q => decide (q = A)) h4 x S1 past1 N 1 le1 lc1 lf1 [] ln1 → h4.2 A = some (aJ (kA X 3) W1) → V X mL_law (FL X) k1 n1 648 [(9, .long (Asks S)), (7, .int (nI past1.length)), (8, .int (nI i)), (0, .ref (kb X)), (2, .ref x), (3, .long (Asks N)), (5, .int (z_count N)), (6, .ref A)] [] h4 := by
      intro h4 S1 past1 W1 le1 lc1 lf1 ln1 k1 n1 hk1 hn1 hA4 hl4 hI4 hP4 hwas4 hF4 hw4
      refine V_iinc (v := nI (i + 1)) (lv' := [(8, .int (nI (i + 1))), (9, .long (Asks S)), (7, .int (nI past1.length)), (0, .ref (kb X)), (2, .ref x), (3, .long (Asks N)), (5, .int (z_count N)), (6, .ref A)]) dL_law_648 2 rfl (iinc1 i) (by decide) rfl ?_
      refine V_goto (tgt := 587) dL_law_651 (by decide) ?_
      refine V.loc [3, 4, 5, 6, 7, 2, 0] rfl ?_
      refine V.wide hk1 hn1 ?_
      exact ih (i + 1) S1 past1 W1 le1 lc1 lf1 ln1 h4 hA4 (by omega) hl4 hI4 hP4 hwas4 hF4 hw4
    refine V_callS (As := [.ref x, .int ((atS X (20 + i)) ^^^ (nI i * 977))]) (rest := []) dL_law_617 cvL_334 (Ct.op hg hg2 hF1 (fun q hq => by have := of_decide_eq_true hq; omega) (fun q hq => by have := of_decide_eq_true hq; omega) (fun X' h0 e1 e2 e3 e4 => c_L_changes (by rw [e1]; exact hxs) e2 e3 e4 hI1 (by omega) (by omega) (by omega) ((atS X (20 + i)) ^^^ (nI i * 977)))) ⟨Nat.le_of_ble_eq_true rfl, Nat.le_of_ble_eq_true rfl, by show (25000 + 4300 * i) + 2048 + 0 + 128 ≤ room_1.cells; have := lwr_c; omega, by show (800000 + 150000 * i) + 65536 + 0 + 16384 ≤ room_1.slots; have := lwr_s; omega⟩ (Nat.le_of_ble_eq_true rfl) rfl (fun v h3 hz => ?_) (fun E h3 hz => ?_)
    · obtain ⟨S1, past1, N1, hs1, le1, lc1, lf1, txt1, ln2, ⟨eN, eh, et, hd⟩, q1, -, q3, q4⟩ := hz
      rw [eN, eh, et] at q1
      have hA3 := Nat.lt_of_lt_of_le hA1 q3
      have hw3 : h3.2 A = some (aJ (kA X 3) W) := (q4 A (decide_eq_true rfl)).trans (hw1.trans hw)
      rcases hd with ⟨e, ep, hI3⟩ | ⟨e, eS, ep⟩
      · cases e
        refine V_if_eq (tgt := 636) dL_law_620 (by decide) (fun c9 => absurd c9 (by decide)) (fun _ => ?_)
        refine V_aload dL_law_623 5 rfl ?_
        refine V_iload dL_law_625 6 rfl ?_
        refine V_iinc (v := nI (past.length + 1)) (lv' := [(7, .int (nI (past.length + 1))), (9, .long (Asks S)), (0, .ref (kb X)), (2, .ref x), (3, .long (Asks N)), (5, .int (z_count N)), (6, .ref A), (8, .int (nI i))]) dL_law_627 6 rfl (iinc1 past.length) (by decide) rfl ?_
        refine V_lload dL_law_630 1 rfl ?_
        refine V_last (L := W) dL_law_632 hw3 (vp_in_nI (by rw [hwas.1]; omega) (by rw [hwas.1]; omega)) ?_
        refine V_goto (tgt := 648) dL_law_633 (by decide) ?_
        refine V.loc [1, 0, 7, 2, 3, 4, 5, 6] rfl ?_
        have ep2 : past1 = S :: past := by rw [ep]; exact List.take_of_length_le (by simp; omega)
        rw [ep2] at q1
        refine kc _ S1 (S :: past) _ le1 lc1 lf1 ln2 _ _ (by show (25000 + 4300 * i) + 2048 + 0 + 128 ≤ _; omega) (by show (800000 + 150000 * i) + 65536 + 0 + 16384 ≤ _; omega) hA3 (by simp; omega) (Inv_mono hI3 (by omega) (by omega) (by omega)) ?_ (wasOK_cons hwas (by omega)) (OpF.put q1 (decide_eq_true rfl)) (if_pos rfl)
        intro s hs9
        rcases List.mem_cons.mp hs9 with e9 | e9
        · rw [e9]; exact Inv_mono hI1 (by omega) (by omega) (by omega)
        · exact hP s e9
      · cases e
        rw [eS, ep] at q1
        refine V_if_eq (tgt := 636) dL_law_620 (by decide) (fun _ => ?_) (fun c9 => absurd rfl c9)
        refine V_aload_n dL_law_636 2 rfl ?_
        refine V_cSg (As := [.ref x]) (rest := []) dL_law_637 cvL_281 (asks_f hxs hg hg2 hA3 hxA q1 hI1 (by omega) (by omega)) ⟨Nat.le_of_ble_eq_true rfl, Nat.le_of_ble_eq_true rfl, by show (25000 + 4300 * i) + 2048 + 0 + 128 + 2048 ≤ room_1.cells; have := lwr_c; omega, by show (800000 + 150000 * i) + 65536 + 0 + 16384 + 65536 ≤ room_1.slots; have := lwr_s; omega⟩ (Nat.le_of_ble_eq_true rfl) rfl (fun h5 q5 => ?_)
        obtain ⟨ln5, hF5, hz5, hw5⟩ := q5
        refine V_lload dL_law_640 0 rfl ?_
        refine V_lcmp dL_law_642 ?_
        refine V_if_eq (tgt := 648) dL_law_643 (by decide) (fun _ => ?_) (fun c9 => absurd (cmp0 _) c9)
        refine V.loc [0, 6, 7, 1, 2, 3, 4, 5] rfl ?_
        exact kc h5 S past W le1 lc1 lf1 ln5 _ _ (by show (25000 + 4300 * i) + 2048 + 0 + 128 + 2048 ≤ _; omega) (by show (800000 + 150000 * i) + 65536 + 0 + 16384 + 65536 ≤ _; omega) (Nat.lt_of_lt_of_le hA3 hz5) (by omega) (Inv_mono hI1 (by omega) (by omega) (by omega)) hP hwas hF5 (hw5.trans hw3)
    · obtain ⟨S1, past1, N1, hs1, le1, lc1, lf1, txt1, ln2, ⟨eN, eh, et, hd⟩, -⟩ := hz
      rcases hd with ⟨e, -⟩ | ⟨e, -⟩ <;> cases e
set_option maxRecDepth 20000 in
set_option maxHeartbeats 16000000 in
theorem law_490 {X : KX} (hxs : X.1.stackTraces = false) (hg : GX X) (hg2 : GP2 X) (hL : kL X ≤ 260) {h : AH} : V X mL_law (FL X) 4000 90000 490 [(0, .ref (kb X))] [] h := by
  refine V_newB (ci := 9) (N := 10) (b := h.1) (fs := [.null, .null, .null, .null, .null, .null, .int 0, .int 0, .int 0, .int 0]) rfl dL_law_490 wNRL_8 iGX7 tyX7_ok rfl (by decide) ⟨by show 4000 + 1 ≤ room_1.cells; have := lwr_c; omega, by show 90000 + 10 ≤ room_1.slots; have := lwr_s; omega⟩ (fun h1 he1 f_o fk => ?_)
  refine V_dup dL_law_493 rfl ?_
  refine V_cI (As := []) (rest := [.ref h.1]) dL_law_494 cvL_318 rfl rfl rfl (c_X7_init hxs hg hg2 he1 f_o) ⟨Nat.le_of_ble_eq_true rfl, Nat.le_of_ble_eq_true rfl, by show 4000 + 1 + 184 ≤ room_1.cells; have := lwr_c; omega, by show 90000 + 10 + 2136 ≤ room_1.slots; have := lwr_s; omega⟩ (Nat.le_of_ble_eq_true rfl) rfl (fun h2 q2 => ?_)
  obtain ⟨hW2, hz2, fk2⟩ := q2
  refine V_astore_n (lv' := [(2, .ref h.1), (0, .ref (kb X))]) dL_law_497 rfl (by decide) rfl ?_
  refine V_aload_n dL_law_498 0 rfl ?_
  refine V_aload_n dL_law_499 1 rfl ?_
  refine V_cSg (As := [.ref h.1, .ref (kb X)]) (rest := []) dL_law_500 cvL_326 (c_L_makes hxs hg hL inv_0 ti_0 nI_0.symm hW2) ⟨Nat.le_of_ble_eq_true rfl, Nat.le_of_ble_eq_true rfl, by show 4000 + 1 + 184 + 256 ≤ room_1.cells; have := lwr_c; omega, by show 90000 + 10 + 2136 + 4096 ≤ room_1.slots; have := lwr_s; omega⟩ (Nat.le_of_ble_eq_true rfl) rfl (fun h3 q3 => ?_)
  obtain ⟨S, past, n, L, hn2, hn6, hP, hI, hT, hW3⟩ := q3
  refine V_if_ne (tgt := 508) dL_law_503 (by decide) (fun _ => ?_) (fun c9 => absurd c9 (by decide))
  refine V_aload_n dL_law_508 0 rfl ?_
  refine V_cSg (As := [.ref h.1]) (rest := []) dL_law_509 cvL_281 (c_L_asks hxs hg hW3 hI (by omega) (by omega) hP hn6) ⟨Nat.le_of_ble_eq_true rfl, Nat.le_of_ble_eq_true rfl, by show 4000 + 1 + 184 + 256 + 2048 ≤ room_1.cells; have := lwr_c; omega, by show 90000 + 10 + 2136 + 4096 + 65536 ≤ room_1.slots; have := lwr_s; omega⟩ (Nat.le_of_ble_eq_true rfl) rfl (fun h4 q4 => ?_)
  obtain ⟨ln4, hW4⟩ := q4
  refine V_lstore_n (lv' := [(3, .long (Asks S)), (2, .ref h.1), (0, .ref (kb X))]) dL_law_512 rfl (by decide) rfl ?_
  refine V_aload_n dL_law_513 1 rfl ?_
  refine V_cSg (As := [.ref h.1]) (rest := []) dL_law_514 cvL_281 (c_L_asks hxs hg hW4 hI (by omega) (by omega) hP hn6) ⟨Nat.le_of_ble_eq_true rfl, Nat.le_of_ble_eq_true rfl, by show 4000 + 1 + 184 + 256 + 2048 + 2048 ≤ room_1.cells; have := lwr_c; omega, by show 90000 + 10 + 2136 + 4096 + 65536 + 65536 ≤ room_1.slots; have := lwr_s; omega⟩ (Nat.le_of_ble_eq_true rfl) rfl (fun h5 q5 => ?_)
  obtain ⟨ln5, hW5⟩ := q5
  refine V_lload_n dL_law_517 0 rfl ?_
  refine V_lcmp dL_law_518 ?_
  refine V_if_ne (tgt := 529) dL_law_519 (by decide) (fun c9 => absurd c9 (fun q9 => q9 (cmp0 _))) (fun _ => ?_)
  refine V_aload_n dL_law_522 1 rfl ?_
  refine V_cSg (As := [.ref h.1]) (rest := []) dL_law_523 cvL_330 (c_L_thrown hxs hg hW5 hI hT (by omega) (by omega) (by omega) hP hn2 hn6) ⟨Nat.le_of_ble_eq_true rfl, Nat.le_of_ble_eq_true rfl, by show 4000 + 1 + 184 + 256 + 2048 + 2048 + 6000 ≤ room_1.cells; have := lwr_c; omega, by show 90000 + 10 + 2136 + 4096 + 65536 + 65536 + 400000 ≤ room_1.slots; have := lwr_s; omega⟩ (Nat.le_of_ble_eq_true rfl) rfl (fun h6 q6 => ?_)
  obtain ⟨le1, lc1, lf1, ln6, hW6⟩ := q6
  refine V_if_ne (tgt := 531) dL_law_526 (by decide) (fun _ => ?_) (fun c9 => absurd c9 (by decide))
  refine V_aload_n dL_law_531 1 rfl ?_
  refine V_cVmi (As := []) (rest := []) dL_law_532 cvL_323 (c_X7_save hxs hg hW6) hW6.obj rfl ⟨Nat.le_of_ble_eq_true rfl, Nat.le_of_ble_eq_true rfl, by show 4000 + 1 + 184 + 256 + 2048 + 2048 + 6000 + 0 ≤ room_1.cells; have := lwr_c; omega, by show 90000 + 10 + 2136 + 4096 + 65536 + 65536 + 400000 + 0 ≤ room_1.slots; have := lwr_s; omega⟩ (Nat.le_of_ble_eq_true rfl) rfl (fun h7 hW7 => ?_)
  refine V_istore (lv' := [(5, .int (z_count S)), (3, .long (Asks S)), (2, .ref h.1), (0, .ref (kb X))]) dL_law_535 (by decide) rfl ?_
  refine V_iload dL_law_537 0 rfl ?_
  refine V_aload_n dL_law_539 2 rfl ?_
  refine V_cVmi (As := []) (rest := [.int (z_count S)]) dL_law_540 cvL_204 (c_X7_cueCount hxs hg hW7) hW7.obj rfl ⟨Nat.le_of_ble_eq_true rfl, Nat.le_of_ble_eq_true rfl, by show 4000 + 1 + 184 + 256 + 2048 + 2048 + 6000 + 0 + 0 ≤ room_1.cells; have := lwr_c; omega, by show 90000 + 10 + 2136 + 4096 + 65536 + 65536 + 400000 + 0 + 0 ≤ room_1.slots; have := lwr_s; omega⟩ (Nat.le_of_ble_eq_true rfl) rfl (fun h8 hW8 => ?_)
  rw [show T_X7_cueCount S = z_count S from rfl]
  refine V_icmp_ne (tgt := 573) dL_law_543 (by decide) (fun c9 => absurd c9 (fun q9 => q9 rfl)) (fun _ => ?_)
  refine V_aload_n dL_law_546 2 rfl ?_
  refine V_cSg (As := [.ref h.1]) (rest := []) dL_law_547 cvL_281 (c_L_asks hxs hg hW8 hI (by omega) (by omega) hP hn6) ⟨Nat.le_of_ble_eq_true rfl, Nat.le_of_ble_eq_true rfl, by show 4000 + 1 + 184 + 256 + 2048 + 2048 + 6000 + 0 + 0 + 2048 ≤ room_1.cells; have := lwr_c; omega, by show 90000 + 10 + 2136 + 4096 + 65536 + 65536 + 400000 + 0 + 0 + 65536 ≤ room_1.slots; have := lwr_s; omega⟩ (Nat.le_of_ble_eq_true rfl) rfl (fun h9 q9 => ?_)
  obtain ⟨ln9, hW9⟩ := q9
  refine V_lload_n dL_law_550 1 rfl ?_
  refine V_lcmp dL_law_551 ?_
  refine V_if_ne (tgt := 573) dL_law_552 (by decide) (fun c9 => absurd c9 (fun q9 => q9 (cmp0 _))) (fun _ => ?_)
  refine V_aload_n dL_law_555 2 rfl ?_
  refine V_cSHi (As := [.ref h.1]) (rest := []) dL_law_556 cvL_321 (c_L_restore1 hxs hg hW9) ⟨Nat.le_of_ble_eq_true rfl, Nat.le_of_ble_eq_true rfl, by show 4000 + 1 + 184 + 256 + 2048 + 2048 + 6000 + 0 + 0 + 2048 + 1 ≤ room_1.cells; have := lwr_c; omega, by show 90000 + 10 + 2136 + 4096 + 65536 + 65536 + 400000 + 0 + 0 + 65536 + 6 ≤ room_1.slots; have := lwr_s; omega⟩ (Nat.le_of_ble_eq_true rfl) rfl (fun hA hWA => ?_)
  refine V_iload dL_law_559 0 rfl ?_
  refine V_icmp_ne (tgt := 573) dL_law_561 (by decide) (fun c9 => absurd c9 (fun q9 => q9 rfl)) (fun _ => ?_)
  refine V_aload_n dL_law_564 2 rfl ?_
  refine V_cSg (As := [.ref h.1]) (rest := []) dL_law_565 cvL_281 (c_L_asks hxs hg hWA hI (by omega) (by omega) hP hn6) ⟨Nat.le_of_ble_eq_true rfl, Nat.le_of_ble_eq_true rfl, by show 4000 + 1 + 184 + 256 + 2048 + 2048 + 6000 + 0 + 0 + 2048 + 1 + 2048 ≤ room_1.cells; have := lwr_c; omega, by show 90000 + 10 + 2136 + 4096 + 65536 + 65536 + 400000 + 0 + 0 + 65536 + 6 + 65536 ≤ room_1.slots; have := lwr_s; omega⟩ (Nat.le_of_ble_eq_true rfl) rfl (fun hB qB => ?_)
  obtain ⟨lnB, hWB⟩ := qB
  refine V_lload_n dL_law_568 1 rfl ?_
  refine V_lcmp dL_law_569 ?_
  refine V_if_eq (tgt := 575) dL_law_570 (by decide) (fun _ => ?_) (fun c9 => absurd (cmp0 _) c9)
  refine V_bipush (v := 9) dL_law_575 (by decide) ?_
  refine V_newl (N := 9) dL_law_577 (by decide) (by decide) (by decide) ⟨by show 4000 + 1 + 184 + 256 + 2048 + 2048 + 6000 + 0 + 0 + 2048 + 1 + 2048 + 1 ≤ room_1.cells; have := lwr_c; omega, by show 90000 + 10 + 2136 + 4096 + 65536 + 65536 + 400000 + 0 + 0 + 65536 + 6 + 65536 + 9 ≤ room_1.slots; have := lwr_s; omega⟩ ?_
  refine V_astore (lv' := [(6, .ref hB.1), (5, .int (z_count S)), (3, .long (Asks S)), (2, .ref h.1), (0, .ref (kb X))]) dL_law_579 (by decide) rfl ?_
  refine V_iconst (v := 0) dL_law_581 (by decide) ?_
  refine V_istore (lv' := [(7, .int 0), (6, .ref hB.1), (5, .int (z_count S)), (3, .long (Asks S)), (2, .ref h.1), (0, .ref (kb X))]) dL_law_582 (by decide) rfl ?_
  refine V_iconst (v := 0) dL_law_584 (by decide) ?_
  refine V_istore (lv' := [(8, .int 0), (7, .int 0), (6, .ref hB.1), (5, .int (z_count S)), (3, .long (Asks S)), (2, .ref h.1), (0, .ref (kb X))]) dL_law_585 (by decide) rfl ?_
  refine V.loc [6, 5, 4, 3, 2, 1, 0] rfl ?_
  refine V.wide (k' := 25000 + 4300 * 0) (n' := 800000 + 150000 * 0) (by show 4000 + 1 + 184 + 256 + 2048 + 2048 + 6000 + 0 + 0 + 2048 + 1 + 2048 + 1 ≤ _; omega) (by show 90000 + 10 + 2136 + 4096 + 65536 + 65536 + 400000 + 0 + 0 + 65536 + 6 + 65536 + 9 ≤ _; omega) ?_
  have hlt := hWB.lim
  have hF : OpF X (fun q => decide (q = hB.1)) (hnew hB (aJ (kA X 3) (List.replicate 9 0))) h.1 S [] S 1 le1 lc1 lf1 [] lnB := OpF.of hWB (Nat.le_succ _) (fun q hq => if_neg (by omega)) (fun q hq => decide_eq_false (by omega))
  exact law_587 hxs hg hg2 hL (by omega) hI (by omega) (by omega) 8 0 S [] (List.replicate 9 0) le1 lc1 lf1 lnB _ (Nat.lt_succ_self _) (by omega) (Nat.le_refl _) (Inv_mono hI (by omega) (by omega) (by omega)) (fun s hs9 => absurd hs9 (by simp)) ⟨rfl, fun j hj => absurd hj (by simp)⟩ hF (if_pos rfl)
set_option maxRecDepth 20000 in
set_option maxHeartbeats 8000000 in
theorem law_440 {X : KX} (hxs : X.1.stackTraces = false) (hg : GX X) (hg2 : GP2 X) (hL : kL X ≤ 260) {h : AH} {x : Nat} {le lc lf : Int32} {txt ln : List Int32} {S : SH} {past : List SH} (hW : OpW X h x S past (eS 0) 1 le lc lf txt ln) : V X mL_law (FL X) 3700 88000 440 [(0, .ref (kb X)), (1, .ref x)] [] h := by
  refine V_aload_n dL_law_440 1 rfl ?_
  refine V_cSHi (r := 0) (As := [.ref x]) (rest := []) dL_law_441 cvL_321 (by have hC := c_L_restore1 hxs hg hW; rw [e_z0] at hC; exact hC) ⟨Nat.le_of_ble_eq_true rfl, Nat.le_of_ble_eq_true rfl, by show 3700 + 1 ≤ room_1.cells; have := lwr_c; omega, by show 88000 + 6 ≤ room_1.slots; have := lwr_s; omega⟩ (Nat.le_of_ble_eq_true rfl) rfl (fun h441 hW1 => ?_)
  refine V_if_ne (tgt := 488) dL_law_444 (by decide) (fun c9 => absurd c9 (fun q9 => q9 rfl)) (fun _ => ?_)
  refine V_aload_n dL_law_447 1 rfl ?_
  refine V_cVmi (As := []) (rest := []) dL_law_448 cvL_181 (c_X7_performerCount hxs hg hW1) hW1.obj rfl ⟨Nat.le_of_ble_eq_true rfl, Nat.le_of_ble_eq_true rfl, by show 3700 + 1 + 0 ≤ room_1.cells; have := lwr_c; omega, by show 88000 + 6 + 0 ≤ room_1.slots; have := lwr_s; omega⟩ (Nat.le_of_ble_eq_true rfl) rfl (fun h448 hW2 => ?_)
  rw [e_pc0]
  refine V_if_ne (tgt := 488) dL_law_451 (by decide) (fun c9 => absurd c9 (fun q9 => q9 rfl)) (fun _ => ?_)
  refine V_aload_n dL_law_454 1 rfl ?_
  refine V_cVmi (As := []) (rest := []) dL_law_455 cvL_207 (c_X7_now hxs hg hW2) hW2.obj rfl ⟨Nat.le_of_ble_eq_true rfl, Nat.le_of_ble_eq_true rfl, by show 3700 + 1 + 0 + 0 ≤ room_1.cells; have := lwr_c; omega, by show 88000 + 6 + 0 + 0 ≤ room_1.slots; have := lwr_s; omega⟩ (Nat.le_of_ble_eq_true rfl) rfl (fun h455 hW3 => ?_)
  rw [e_now0]
  refine V_if_ne (tgt := 488) dL_law_458 (by decide) (fun c9 => absurd c9 (fun q9 => q9 rfl)) (fun _ => ?_)
  refine V_aload_n dL_law_461 1 rfl ?_
  refine V_cVmi (As := []) (rest := []) dL_law_462 cvL_204 (c_X7_cueCount hxs hg hW3) hW3.obj rfl ⟨Nat.le_of_ble_eq_true rfl, Nat.le_of_ble_eq_true rfl, by show 3700 + 1 + 0 + 0 + 0 ≤ room_1.cells; have := lwr_c; omega, by show 88000 + 6 + 0 + 0 + 0 ≤ room_1.slots; have := lwr_s; omega⟩ (Nat.le_of_ble_eq_true rfl) rfl (fun h462 hW4 => ?_)
  rw [e_cc0]
  refine V_if_ne (tgt := 488) dL_law_465 (by decide) (fun c9 => absurd c9 (fun q9 => q9 rfl)) (fun _ => ?_)
  refine V_aload_n dL_law_468 1 rfl ?_
  refine V_cSHi (As := [.ref x]) (rest := []) dL_law_469 cvL_319 (c_L_undo0 hxs hg hW4) ⟨Nat.le_of_ble_eq_true rfl, Nat.le_of_ble_eq_true rfl, by show 3700 + 1 + 0 + 0 + 0 + 1 ≤ room_1.cells; have := lwr_c; omega, by show 88000 + 6 + 0 + 0 + 0 + 6 ≤ room_1.slots; have := lwr_s; omega⟩ (Nat.le_of_ble_eq_true rfl) rfl (fun h469 hW5 => ?_)
  refine V_sipush (v := (-1001)) dL_law_472 (by decide) ?_
  refine V_icmp_ne (tgt := 488) dL_law_475 (by decide) (fun c9 => absurd c9 (fun q9 => q9 rfl)) (fun _ => ?_)
  refine V_aload_n dL_law_478 1 rfl ?_
  refine V_bipush (v := 60) dL_law_479 (by decide) ?_
  refine V_iconst (v := 1) dL_law_481 (by decide) ?_
  refine V_cSHi (r := 0) (As := [.ref x, .int 60, .int 1]) (rest := []) dL_law_482 cvL_176 (by have hC := c_L_cueHush hxs hg hW5 60 1; rw [e_hush0] at hC; exact hC) ⟨Nat.le_of_ble_eq_true rfl, Nat.le_of_ble_eq_true rfl, by show 3700 + 1 + 0 + 0 + 0 + 1 + 1 ≤ room_1.cells; have := lwr_c; omega, by show 88000 + 6 + 0 + 0 + 0 + 6 + 6 ≤ room_1.slots; have := lwr_s; omega⟩ (Nat.le_of_ble_eq_true rfl) rfl (fun h482 hW6 => ?_)
  refine V_if_eq (tgt := 490) dL_law_485 (by decide) (fun _ => ?_) (fun c9 => absurd rfl c9)
  refine V.loc [0] rfl ?_
  refine V.wide (k' := 4000) (n' := 90000) (by show 3700 + 1 + 0 + 0 + 0 + 1 + 1 ≤ _; omega) (by show 88000 + 6 + 0 + 0 + 0 + 6 + 6 ≤ _; omega) ?_
  exact law_490 hxs hg hg2 hL
set_option maxRecDepth 20000 in
set_option maxHeartbeats 8000000 in
theorem law_302 {X : KX} (hxs : X.1.stackTraces = false) (hg : GX X) (hg2 : GP2 X) (hL : kL X ≤ 260) {h : AH} {x : Nat} {le lc lf : Int32} {txt ln : List Int32} (hW : OpW X h x (eS 26) [eS 25, eS 24, eS 23, eS 22, eS 21, eS 20, eS 19, eS 18] (eS 0) 1 le lc lf txt ln) : V X mL_law (FL X) 3400 85000 302 [(0, .ref (kb X)), (1, .ref x)] [] h := by
  refine V_aload_n dL_law_302 1 rfl ?_
  refine V_cSHi (r := 7) (As := [.ref x]) (rest := []) dL_law_303 cvL_319 (c_L_undo1 hxs hg hW) ⟨Nat.le_of_ble_eq_true rfl, Nat.le_of_ble_eq_true rfl, by show 3400 + 1 ≤ room_1.cells; have := lwr_c; omega, by show 85000 + 6 ≤ room_1.slots; have := lwr_s; omega⟩ (Nat.le_of_ble_eq_true rfl) rfl (fun h303 a1 => ?_)
  refine V_bipush (v := 7) dL_law_306 (by decide) ?_
  refine V_icmp_ne (tgt := 438) dL_law_308 (by decide) (fun c9 => absurd c9 (fun q9 => q9 rfl)) (fun _ => ?_)
  refine V_aload_n dL_law_311 1 rfl ?_
  refine V_cVmi (As := []) (rest := []) dL_law_312 cvL_204 (c_X7_cueCount hxs hg a1) a1.obj rfl ⟨Nat.le_of_ble_eq_true rfl, Nat.le_of_ble_eq_true rfl, by show 3400 + 1 + 0 ≤ room_1.cells; have := lwr_c; omega, by show 85000 + 6 + 0 ≤ room_1.slots; have := lwr_s; omega⟩ (Nat.le_of_ble_eq_true rfl) rfl (fun h312 a2 => ?_)
  rw [e_cc25]
  refine V_iconst (v := 1) dL_law_315 (by decide) ?_
  refine V_icmp_ne (tgt := 438) dL_law_316 (by decide) (fun c9 => absurd c9 (fun q9 => q9 rfl)) (fun _ => ?_)
  refine V_aload_n dL_law_319 1 rfl ?_
  refine V_cSHi (r := 6) (As := [.ref x]) (rest := []) dL_law_320 cvL_319 (c_L_undo1 hxs hg a2) ⟨Nat.le_of_ble_eq_true rfl, Nat.le_of_ble_eq_true rfl, by show 3400 + 1 + 0 + 1 ≤ room_1.cells; have := lwr_c; omega, by show 85000 + 6 + 0 + 6 ≤ room_1.slots; have := lwr_s; omega⟩ (Nat.le_of_ble_eq_true rfl) rfl (fun h320 a3 => ?_)
  refine V_bipush (v := 6) dL_law_323 (by decide) ?_
  refine V_icmp_ne (tgt := 438) dL_law_325 (by decide) (fun c9 => absurd c9 (fun q9 => q9 rfl)) (fun _ => ?_)
  refine V_aload_n dL_law_328 1 rfl ?_
  refine V_cVmi (As := []) (rest := []) dL_law_329 cvL_204 (c_X7_cueCount hxs hg a3) a3.obj rfl ⟨Nat.le_of_ble_eq_true rfl, Nat.le_of_ble_eq_true rfl, by show 3400 + 1 + 0 + 1 + 0 ≤ room_1.cells; have := lwr_c; omega, by show 85000 + 6 + 0 + 6 + 0 ≤ room_1.slots; have := lwr_s; omega⟩ (Nat.le_of_ble_eq_true rfl) rfl (fun h329 a4 => ?_)
  rw [e_cc24]
  refine V_if_ne (tgt := 438) dL_law_332 (by decide) (fun c9 => absurd c9 (fun q9 => q9 rfl)) (fun _ => ?_)
  refine V_aload_n dL_law_335 1 rfl ?_
  refine V_cSHi (r := 5) (As := [.ref x]) (rest := []) dL_law_336 cvL_319 (c_L_undo1 hxs hg a4) ⟨Nat.le_of_ble_eq_true rfl, Nat.le_of_ble_eq_true rfl, by show 3400 + 1 + 0 + 1 + 0 + 1 ≤ room_1.cells; have := lwr_c; omega, by show 85000 + 6 + 0 + 6 + 0 + 6 ≤ room_1.slots; have := lwr_s; omega⟩ (Nat.le_of_ble_eq_true rfl) rfl (fun h336 a5 => ?_)
  refine V_iconst (v := 5) dL_law_339 (by decide) ?_
  refine V_icmp_ne (tgt := 438) dL_law_340 (by decide) (fun c9 => absurd c9 (fun q9 => q9 rfl)) (fun _ => ?_)
  refine V_aload_n dL_law_343 1 rfl ?_
  refine V_cVmi (As := []) (rest := []) dL_law_344 cvL_207 (c_X7_now hxs hg a5) a5.obj rfl ⟨Nat.le_of_ble_eq_true rfl, Nat.le_of_ble_eq_true rfl, by show 3400 + 1 + 0 + 1 + 0 + 1 + 0 ≤ room_1.cells; have := lwr_c; omega, by show 85000 + 6 + 0 + 6 + 0 + 6 + 0 ≤ room_1.slots; have := lwr_s; omega⟩ (Nat.le_of_ble_eq_true rfl) rfl (fun h344 a6 => ?_)
  rw [e_now23]
  refine V_bipush (v := 40) dL_law_347 (by decide) ?_
  refine V_icmp_ne (tgt := 438) dL_law_349 (by decide) (fun c9 => absurd c9 (fun q9 => q9 rfl)) (fun _ => ?_)
  refine V_aload_n dL_law_352 1 rfl ?_
  refine V_cVmi (As := []) (rest := []) dL_law_353 cvL_204 (c_X7_cueCount hxs hg a6) a6.obj rfl ⟨Nat.le_of_ble_eq_true rfl, Nat.le_of_ble_eq_true rfl, by show 3400 + 1 + 0 + 1 + 0 + 1 + 0 + 0 ≤ room_1.cells; have := lwr_c; omega, by show 85000 + 6 + 0 + 6 + 0 + 6 + 0 + 0 ≤ room_1.slots; have := lwr_s; omega⟩ (Nat.le_of_ble_eq_true rfl) rfl (fun h353 a7 => ?_)
  rw [e_cc23]
  refine V_bipush (v := 16) dL_law_356 (by decide) ?_
  refine V_icmp_ne (tgt := 438) dL_law_358 (by decide) (fun c9 => absurd c9 (fun q9 => q9 rfl)) (fun _ => ?_)
  refine V_aload_n dL_law_361 1 rfl ?_
  refine V_cVmi (As := []) (rest := []) dL_law_362 cvL_219 (c_X7_imposedTotal hxs hg a7) a7.obj rfl ⟨Nat.le_of_ble_eq_true rfl, Nat.le_of_ble_eq_true rfl, by show 3400 + 1 + 0 + 1 + 0 + 1 + 0 + 0 + 0 ≤ room_1.cells; have := lwr_c; omega, by show 85000 + 6 + 0 + 6 + 0 + 6 + 0 + 0 + 0 ≤ room_1.slots; have := lwr_s; omega⟩ (Nat.le_of_ble_eq_true rfl) rfl (fun h362 a8 => ?_)
  rw [e_imp23]
  refine V_if_ne (tgt := 438) dL_law_365 (by decide) (fun c9 => absurd c9 (fun q9 => q9 rfl)) (fun _ => ?_)
  refine V_aload_n dL_law_368 1 rfl ?_
  refine V_cSHi (r := 4) (As := [.ref x]) (rest := []) dL_law_369 cvL_319 (c_L_undo1 hxs hg a8) ⟨Nat.le_of_ble_eq_true rfl, Nat.le_of_ble_eq_true rfl, by show 3400 + 1 + 0 + 1 + 0 + 1 + 0 + 0 + 0 + 1 ≤ room_1.cells; have := lwr_c; omega, by show 85000 + 6 + 0 + 6 + 0 + 6 + 0 + 0 + 0 + 6 ≤ room_1.slots; have := lwr_s; omega⟩ (Nat.le_of_ble_eq_true rfl) rfl (fun h369 a9 => ?_)
  refine V_iconst (v := 4) dL_law_372 (by decide) ?_
  refine V_icmp_ne (tgt := 438) dL_law_373 (by decide) (fun c9 => absurd c9 (fun q9 => q9 rfl)) (fun _ => ?_)
  refine V_aload_n dL_law_376 1 rfl ?_
  refine V_cSHi (r := 3) (As := [.ref x]) (rest := []) dL_law_377 cvL_319 (c_L_undo1 hxs hg a9) ⟨Nat.le_of_ble_eq_true rfl, Nat.le_of_ble_eq_true rfl, by show 3400 + 1 + 0 + 1 + 0 + 1 + 0 + 0 + 0 + 1 + 1 ≤ room_1.cells; have := lwr_c; omega, by show 85000 + 6 + 0 + 6 + 0 + 6 + 0 + 0 + 0 + 6 + 6 ≤ room_1.slots; have := lwr_s; omega⟩ (Nat.le_of_ble_eq_true rfl) rfl (fun h377 b1 => ?_)
  refine V_iconst (v := 3) dL_law_380 (by decide) ?_
  refine V_icmp_ne (tgt := 438) dL_law_381 (by decide) (fun c9 => absurd c9 (fun q9 => q9 rfl)) (fun _ => ?_)
  refine V_aload_n dL_law_384 1 rfl ?_
  refine V_cSHi (r := 2) (As := [.ref x]) (rest := []) dL_law_385 cvL_319 (c_L_undo1 hxs hg b1) ⟨Nat.le_of_ble_eq_true rfl, Nat.le_of_ble_eq_true rfl, by show 3400 + 1 + 0 + 1 + 0 + 1 + 0 + 0 + 0 + 1 + 1 + 1 ≤ room_1.cells; have := lwr_c; omega, by show 85000 + 6 + 0 + 6 + 0 + 6 + 0 + 0 + 0 + 6 + 6 + 6 ≤ room_1.slots; have := lwr_s; omega⟩ (Nat.le_of_ble_eq_true rfl) rfl (fun h385 b2 => ?_)
  refine V_iconst (v := 2) dL_law_388 (by decide) ?_
  refine V_icmp_ne (tgt := 438) dL_law_389 (by decide) (fun c9 => absurd c9 (fun q9 => q9 rfl)) (fun _ => ?_)
  refine V_aload_n dL_law_392 1 rfl ?_
  refine V_cSHi (r := 1) (As := [.ref x]) (rest := []) dL_law_393 cvL_319 (c_L_undo1 hxs hg b2) ⟨Nat.le_of_ble_eq_true rfl, Nat.le_of_ble_eq_true rfl, by show 3400 + 1 + 0 + 1 + 0 + 1 + 0 + 0 + 0 + 1 + 1 + 1 + 1 ≤ room_1.cells; have := lwr_c; omega, by show 85000 + 6 + 0 + 6 + 0 + 6 + 0 + 0 + 0 + 6 + 6 + 6 + 6 ≤ room_1.slots; have := lwr_s; omega⟩ (Nat.le_of_ble_eq_true rfl) rfl (fun h393 b3 => ?_)
  refine V_iconst (v := 1) dL_law_396 (by decide) ?_
  refine V_icmp_ne (tgt := 438) dL_law_397 (by decide) (fun c9 => absurd c9 (fun q9 => q9 rfl)) (fun _ => ?_)
  refine V_aload_n dL_law_400 1 rfl ?_
  refine V_cSHi (r := 0) (As := [.ref x]) (rest := []) dL_law_401 cvL_319 (c_L_undo1 hxs hg b3) ⟨Nat.le_of_ble_eq_true rfl, Nat.le_of_ble_eq_true rfl, by show 3400 + 1 + 0 + 1 + 0 + 1 + 0 + 0 + 0 + 1 + 1 + 1 + 1 + 1 ≤ room_1.cells; have := lwr_c; omega, by show 85000 + 6 + 0 + 6 + 0 + 6 + 0 + 0 + 0 + 6 + 6 + 6 + 6 + 6 ≤ room_1.slots; have := lwr_s; omega⟩ (Nat.le_of_ble_eq_true rfl) rfl (fun h401 b4 => ?_)
  refine V_if_ne (tgt := 438) dL_law_404 (by decide) (fun c9 => absurd c9 (fun q9 => q9 rfl)) (fun _ => ?_)
  refine V_aload_n dL_law_407 1 rfl ?_
  refine V_cVmi (As := []) (rest := []) dL_law_408 cvL_204 (c_X7_cueCount hxs hg b4) b4.obj rfl ⟨Nat.le_of_ble_eq_true rfl, Nat.le_of_ble_eq_true rfl, by show 3400 + 1 + 0 + 1 + 0 + 1 + 0 + 0 + 0 + 1 + 1 + 1 + 1 + 1 + 0 ≤ room_1.cells; have := lwr_c; omega, by show 85000 + 6 + 0 + 6 + 0 + 6 + 0 + 0 + 0 + 6 + 6 + 6 + 6 + 6 + 0 ≤ room_1.slots; have := lwr_s; omega⟩ (Nat.le_of_ble_eq_true rfl) rfl (fun h408 b5 => ?_)
  rw [e_cc18]
  refine V_bipush (v := 11) dL_law_411 (by decide) ?_
  refine V_icmp_ne (tgt := 438) dL_law_413 (by decide) (fun c9 => absurd c9 (fun q9 => q9 rfl)) (fun _ => ?_)
  refine V_aload_n dL_law_416 1 rfl ?_
  refine V_cSHi (As := [.ref x]) (rest := []) dL_law_417 cvL_319 (c_L_undo0 hxs hg b5) ⟨Nat.le_of_ble_eq_true rfl, Nat.le_of_ble_eq_true rfl, by show 3400 + 1 + 0 + 1 + 0 + 1 + 0 + 0 + 0 + 1 + 1 + 1 + 1 + 1 + 0 + 1 ≤ room_1.cells; have := lwr_c; omega, by show 85000 + 6 + 0 + 6 + 0 + 6 + 0 + 0 + 0 + 6 + 6 + 6 + 6 + 6 + 0 + 6 ≤ room_1.slots; have := lwr_s; omega⟩ (Nat.le_of_ble_eq_true rfl) rfl (fun h417 b6 => ?_)
  refine V_sipush (v := (-1001)) dL_law_420 (by decide) ?_
  refine V_icmp_ne (tgt := 438) dL_law_423 (by decide) (fun c9 => absurd c9 (fun q9 => q9 rfl)) (fun _ => ?_)
  refine V_aload_n dL_law_426 1 rfl ?_
  refine V_bipush (v := 60) dL_law_427 (by decide) ?_
  refine V_iconst (v := 1) dL_law_429 (by decide) ?_
  refine V_cSHi (r := 11) (As := [.ref x, .int 60, .int 1]) (rest := []) dL_law_430 cvL_176 (by have hC := c_L_cueHush hxs hg b6 60 1; rw [e_hush18] at hC; exact hC) ⟨Nat.le_of_ble_eq_true rfl, Nat.le_of_ble_eq_true rfl, by show 3400 + 1 + 0 + 1 + 0 + 1 + 0 + 0 + 0 + 1 + 1 + 1 + 1 + 1 + 0 + 1 + 1 ≤ room_1.cells; have := lwr_c; omega, by show 85000 + 6 + 0 + 6 + 0 + 6 + 0 + 0 + 0 + 6 + 6 + 6 + 6 + 6 + 0 + 6 + 6 ≤ room_1.slots; have := lwr_s; omega⟩ (Nat.le_of_ble_eq_true rfl) rfl (fun h430 b7 => ?_)
  refine V_bipush (v := 11) dL_law_433 (by decide) ?_
  refine V_icmp_eq (tgt := 440) dL_law_435 (by decide) (fun _ => ?_) (fun c9 => absurd rfl c9)
  refine V.loc [0, 1] rfl ?_
  refine V.wide (k' := 3700) (n' := 88000) (by show 3400 + 1 + 0 + 1 + 0 + 1 + 0 + 0 + 0 + 1 + 1 + 1 + 1 + 1 + 0 + 1 + 1 ≤ _; omega) (by show 85000 + 6 + 0 + 6 + 0 + 6 + 0 + 0 + 0 + 6 + 6 + 6 + 6 + 6 + 0 + 6 + 6 ≤ _; omega) ?_
  exact law_440 hxs hg hg2 hL b7
set_option maxRecDepth 20000 in
set_option maxHeartbeats 8000000 in
theorem law_220 {X : KX} (hxs : X.1.stackTraces = false) (hg : GX X) (hg2 : GP2 X) (hL : kL X ≤ 260) {h : AH} {x : Nat} {le lc lf : Int32} {txt ln : List Int32} (hW : OpW X h x (eS 23) (eP 23) (eS 0) 1 le lc lf txt ln) : V X mL_law (FL X) 3300 84000 220 [(0, .ref (kb X)), (1, .ref x)] [] h := by
  refine V_aload_n dL_law_220 1 rfl ?_
  refine V_iconst (v := 0) dL_law_221 (by decide) ?_
  refine V_bipush (v := 60) dL_law_222 (by decide) ?_
  refine V_iconst (v := 1) dL_law_224 (by decide) ?_
  have hC225 := c_L_cueProp hxs hg hW 0 60 1
  rw [e_full] at hC225
  refine V_cSHi (r := (-1003)) (As := [.ref x, .int 0, .int 60, .int 1]) (rest := []) dL_law_225 cvL_174 hC225 ⟨Nat.le_of_ble_eq_true rfl, Nat.le_of_ble_eq_true rfl, by show 3300 + 1 ≤ room_1.cells; have := lwr_c; omega, by show 84000 + 6 ≤ room_1.slots; have := lwr_s; omega⟩ (Nat.le_of_ble_eq_true rfl) rfl (fun h225 q225 => ?_)
  have a1 : OpW X h225 x (eS 23) (eP 23) (eS 0) 1 le lc lf txt ln := q225
  refine V_sipush (v := (-1003)) dL_law_228 (by decide) ?_
  refine V_icmp_ne (tgt := 300) dL_law_231 (by decide) (fun c9 => absurd c9 (fun q9 => q9 rfl)) (fun _ => ?_)
  refine V_aload_n dL_law_234 1 rfl ?_
  refine V_bipush (v := 60) dL_law_235 (by decide) ?_
  refine V_iconst (v := 1) dL_law_237 (by decide) ?_
  have hC238 := c_L_cueHush hxs hg a1 60 1
  rw [e_hush] at hC238
  refine V_cSHi (r := (-1002)) (As := [.ref x, .int 60, .int 1]) (rest := []) dL_law_238 cvL_176 hC238 ⟨Nat.le_of_ble_eq_true rfl, Nat.le_of_ble_eq_true rfl, by show 3300 + 1 + 1 ≤ room_1.cells; have := lwr_c; omega, by show 84000 + 6 + 6 ≤ room_1.slots; have := lwr_s; omega⟩ (Nat.le_of_ble_eq_true rfl) rfl (fun h238 q238 => ?_)
  have a2 : OpW X h238 x (eS 23) (eP 23) (eS 0) 1 le lc lf txt ln := q238
  refine V_sipush (v := (-1002)) dL_law_241 (by decide) ?_
  refine V_icmp_ne (tgt := 300) dL_law_244 (by decide) (fun c9 => absurd c9 (fun q9 => q9 rfl)) (fun _ => ?_)
  refine V_aload_n dL_law_247 1 rfl ?_
  refine V_bipush (v := 40) dL_law_248 (by decide) ?_
  have hC250 := c_L_advance hxs hg a2 40
  rw [e_adv2] at hC250
  refine V_cSHi (r := 16) (As := [.ref x, .int 40]) (rest := []) dL_law_250 cvL_179 hC250 ⟨Nat.le_of_ble_eq_true rfl, Nat.le_of_ble_eq_true rfl, by show 3300 + 1 + 1 + 1 ≤ room_1.cells; have := lwr_c; omega, by show 84000 + 6 + 6 + 6 ≤ room_1.slots; have := lwr_s; omega⟩ (Nat.le_of_ble_eq_true rfl) rfl (fun h250 q250 => ?_)
  have a3 : OpW X h250 x (eS 24) (eP 24) (eS 0) 1 le lc lf txt ln := q250
  refine V_bipush (v := 16) dL_law_253 (by decide) ?_
  refine V_icmp_ne (tgt := 300) dL_law_255 (by decide) (fun c9 => absurd c9 (fun q9 => q9 rfl)) (fun _ => ?_)
  refine V_aload_n dL_law_258 1 rfl ?_
  refine V_cVmi (As := []) (rest := []) dL_law_259 cvL_219 (c_X7_imposedTotal hxs hg a3) a3.obj rfl ⟨Nat.le_of_ble_eq_true rfl, Nat.le_of_ble_eq_true rfl, by show 3300 + 1 + 1 + 1 + 0 ≤ room_1.cells; have := lwr_c; omega, by show 84000 + 6 + 6 + 6 + 0 ≤ room_1.slots; have := lwr_s; omega⟩ (Nat.le_of_ble_eq_true rfl) rfl (fun h259 a4 => ?_)
  rw [e_imp]
  refine V_sipush (v := 144) dL_law_262 (by decide) ?_
  refine V_icmp_ne (tgt := 300) dL_law_265 (by decide) (fun c9 => absurd c9 (fun q9 => q9 rfl)) (fun _ => ?_)
  refine V_aload_n dL_law_268 1 rfl ?_
  refine V_iconst (v := 5) dL_law_269 (by decide) ?_
  have hC270 := c_L_fines hxs hg a4 5
  rw [e_fines] at hC270
  refine V_cSHi (r := 18) (As := [.ref x, .int 5]) (rest := []) dL_law_270 cvL_285 hC270 ⟨Nat.le_of_ble_eq_true rfl, Nat.le_of_ble_eq_true rfl, by show 3300 + 1 + 1 + 1 + 0 + 1 ≤ room_1.cells; have := lwr_c; omega, by show 84000 + 6 + 6 + 6 + 0 + 6 ≤ room_1.slots; have := lwr_s; omega⟩ (Nat.le_of_ble_eq_true rfl) rfl (fun h270 q270 => ?_)
  have a5 : OpW X h270 x (eS 24) (eP 24) (eS 0) 1 le lc lf txt ln := q270
  refine V_bipush (v := 18) dL_law_273 (by decide) ?_
  refine V_icmp_ne (tgt := 300) dL_law_275 (by decide) (fun c9 => absurd c9 (fun q9 => q9 rfl)) (fun _ => ?_)
  refine V_aload_n dL_law_278 1 rfl ?_
  refine V_iconst (v := 0) dL_law_279 (by decide) ?_
  refine V_bipush (v := 99) dL_law_280 (by decide) ?_
  refine V_iconst (v := 1) dL_law_282 (by decide) ?_
  have hC283 := c_L_cueMouth hxs hg a5 0 99 1
  rw [e_mouth] at hC283
  refine V_cSHi (r := 16) (As := [.ref x, .int 0, .int 99, .int 1]) (rest := []) dL_law_283 cvL_171 hC283 ⟨Nat.le_of_ble_eq_true rfl, Nat.le_of_ble_eq_true rfl, by show 3300 + 1 + 1 + 1 + 0 + 1 + 1 ≤ room_1.cells; have := lwr_c; omega, by show 84000 + 6 + 6 + 6 + 0 + 6 + 6 ≤ room_1.slots; have := lwr_s; omega⟩ (Nat.le_of_ble_eq_true rfl) rfl (fun h283 q283 => ?_)
  have a6 : OpW X h283 x (eS 25) (eP 25) (eS 0) 1 le lc lf txt ln := q283
  refine V_bipush (v := 16) dL_law_286 (by decide) ?_
  refine V_icmp_ne (tgt := 300) dL_law_288 (by decide) (fun c9 => absurd c9 (fun q9 => q9 rfl)) (fun _ => ?_)
  refine V_aload_n dL_law_291 1 rfl ?_
  refine V_bipush (v := 16) dL_law_292 (by decide) ?_
  have hC294 := c_L_cancel hxs hg a6 16
  rw [e_cancel] at hC294
  refine V_cSHi (r := 0) (As := [.ref x, .int 16]) (rest := []) dL_law_294 cvL_250 hC294 ⟨Nat.le_of_ble_eq_true rfl, Nat.le_of_ble_eq_true rfl, by show 3300 + 1 + 1 + 1 + 0 + 1 + 1 + 1 ≤ room_1.cells; have := lwr_c; omega, by show 84000 + 6 + 6 + 6 + 0 + 6 + 6 + 6 ≤ room_1.slots; have := lwr_s; omega⟩ (Nat.le_of_ble_eq_true rfl) rfl (fun h294 q294 => ?_)
  have a7 : OpW X h294 x (eS 26) [eS 25, eS 24, eS 23, eS 22, eS 21, eS 20, eS 19, eS 18] (eS 0) 1 le lc lf txt ln := q294
  refine V_if_eq (tgt := 302) dL_law_297 (by decide) (fun _ => ?_) (fun c9 => absurd rfl c9)
  refine V.loc [0, 1] rfl ?_
  refine V.wide (k' := 3400) (n' := 85000) (by show 3300 + 1 + 1 + 1 + 0 + 1 + 1 + 1 ≤ _; omega) (by show 84000 + 6 + 6 + 6 + 0 + 6 + 6 + 6 ≤ _; omega) ?_
  exact law_302 hxs hg hg2 hL a7
set_option maxRecDepth 20000 in
set_option maxHeartbeats 8000000 in
theorem law_188 {X : KX} (hxs : X.1.stackTraces = false) (hg : GX X) (hg2 : GP2 X) (hL : kL X ≤ 260) {x : Nat} {le lc lf : Int32} {ln : List Int32} : ∀ (g k : Nat) (h : AH) (txt : List Int32), k + g = 16 → OpW X h x (eS (7 + k)) (eP (7 + k)) (eS 0) 1 le lc lf txt ln → V X mL_law (FL X) (3200 + 1 * k) (83000 + 6 * k) 188 [(0, .ref (kb X)), (1, .ref x), (2, .int (nI k))] [] h := by
  intro g
  induction g with
  | zero =>
    intro k h txt hk hW
    obtain rfl : k = 16 := by omega
    refine V_iload_n dL_law_188 2 rfl ?_
    refine V_bipush (v := 16) dL_law_189 (by decide) ?_
    refine V_icmp_ge (tgt := 220) dL_law_191 (by decide) (fun _ => ?_) (fun c9 => absurd (show (16 : Int32) ≤ nI 16 by decide) c9)
    refine V.loc [0, 1] rfl ?_
    refine V.wide (k' := 3300) (n' := 84000) (by omega) (by omega) ?_
    exact law_220 hxs hg hg2 hL hW
  | succ g ih =>
    intro k h txt hk hW
    have hk9 : k < 16 := by omega
    refine V_iload_n dL_law_188 2 rfl ?_
    refine V_bipush (v := 16) dL_law_189 (by decide) ?_
    refine V_icmp_ge (tgt := 220) dL_law_191 (by decide) (fun c9 => absurd c9 (show ¬ (16 : Int32) ≤ nI k from nI_ge (a := k) (b := 16) hk9 (by omega))) (fun _ => ?_)
    refine V_aload_n dL_law_194 1 rfl ?_
    refine V_iload_n dL_law_195 2 rfl ?_
    refine V_bipush (v := 6) dL_law_196 (by decide) ?_
    refine V_irem dL_law_198 (by decide) ?_
    refine V_bipush (v := 50) dL_law_199 (by decide) ?_
    refine V_iload_n dL_law_201 2 rfl ?_
    refine V_iadd dL_law_202 ?_
    refine V_bipush (v := 9) dL_law_203 (by decide) ?_
    have hC205 := c_L_cueProp hxs hg hW (nI k - nI k / 6 * 6) (50 + nI k) 9
    rw [e_prop k hk9] at hC205
    refine V_cSHi (r := (nI k)) (As := [.ref x, .int (nI k - nI k / 6 * 6), .int (50 + nI k), .int 9]) (rest := []) dL_law_205 cvL_174 hC205 ⟨Nat.le_of_ble_eq_true rfl, Nat.le_of_ble_eq_true rfl, by show (3200 + 1 * k) + 1 ≤ room_1.cells; have := lwr_c; omega, by show (83000 + 6 * k) + 6 ≤ room_1.slots; have := lwr_s; omega⟩ (Nat.le_of_ble_eq_true rfl) rfl (fun h205 q205 => ?_)
    have hW1 : OpW X h205 x (eS (7 + (k + 1))) (eP (7 + (k + 1))) (eS 0) 1 le lc lf txt ln := q205
    refine V_iload_n dL_law_208 2 rfl ?_
    refine V_icmp_eq (tgt := 214) dL_law_209 (by decide) (fun _ => ?_) (fun c9 => absurd rfl c9)
    refine V_iinc (v := nI (k + 1)) (lv' := [(2, .int (nI (k + 1))), (0, .ref (kb X)), (1, .ref x)]) dL_law_214 2 rfl (iinc1 k) (by decide) rfl ?_
    refine V_goto (tgt := 188) dL_law_217 (by decide) ?_
    refine V.loc [1, 2, 0] rfl ?_
    refine V_recount (show (3200 + 1 * k) + 1 = 3200 + 1 * (k + 1) by omega) (show (83000 + 6 * k) + 6 = 83000 + 6 * (k + 1) by omega) ?_
    exact ih (k + 1) _ _ (by omega) hW1
set_option maxRecDepth 20000 in
set_option maxHeartbeats 8000000 in
theorem law_160 {X : KX} (hxs : X.1.stackTraces = false) (hg : GX X) (hg2 : GP2 X) (hL : kL X ≤ 260) {h : AH} {x : Nat} {le lc lf : Int32} {txt ln : List Int32} (hW : OpW X h x (eS 7) (eP 7) (eS 0) 1 le lc lf txt ln) : V X mL_law (FL X) 3150 82500 160 [(0, .ref (kb X)), (1, .ref x)] [] h := by
  refine V_aload_n dL_law_160 1 rfl ?_
  have hC161 := c_L_addPerformer hxs hg hW
  rw [e_join6] at hC161
  refine V_cSHi (r := (-1001)) (As := [.ref x]) (rest := []) dL_law_161 cvL_167 hC161 ⟨Nat.le_of_ble_eq_true rfl, Nat.le_of_ble_eq_true rfl, by show 3150 + 1 ≤ room_1.cells; have := lwr_c; omega, by show 82500 + 6 ≤ room_1.slots; have := lwr_s; omega⟩ (Nat.le_of_ble_eq_true rfl) rfl (fun h161 q161 => ?_)
  have a1 : OpW X h161 x (eS 7) (eP 7) (eS 0) 1 le lc lf txt ln := q161
  refine V_sipush (v := (-1001)) dL_law_164 (by decide) ?_
  refine V_icmp_ne (tgt := 184) dL_law_167 (by decide) (fun c9 => absurd c9 (fun q9 => q9 rfl)) (fun _ => ?_)
  refine V_aload_n dL_law_170 1 rfl ?_
  refine V_iconst (v := 0) dL_law_171 (by decide) ?_
  refine V_bipush (v := 40) dL_law_172 (by decide) ?_
  refine V_iconst (v := 1) dL_law_174 (by decide) ?_
  have hC175 := c_L_cueProp hxs hg a1 0 40 1
  rw [e_prop0] at hC175
  refine V_cSHi (r := (-1002)) (As := [.ref x, .int 0, .int 40, .int 1]) (rest := []) dL_law_175 cvL_174 hC175 ⟨Nat.le_of_ble_eq_true rfl, Nat.le_of_ble_eq_true rfl, by show 3150 + 1 + 1 ≤ room_1.cells; have := lwr_c; omega, by show 82500 + 6 + 6 ≤ room_1.slots; have := lwr_s; omega⟩ (Nat.le_of_ble_eq_true rfl) rfl (fun h175 q175 => ?_)
  have a2 : OpW X h175 x (eS 7) (eP 7) (eS 0) 1 le lc lf txt ln := q175
  refine V_sipush (v := (-1002)) dL_law_178 (by decide) ?_
  refine V_icmp_eq (tgt := 186) dL_law_181 (by decide) (fun _ => ?_) (fun c9 => absurd rfl c9)
  refine V_iconst (v := 0) dL_law_186 (by decide) ?_
  refine V_istore_n (lv' := [(2, .int 0), (0, .ref (kb X)), (1, .ref x)]) dL_law_187 rfl (by decide) rfl ?_
  refine V.loc [1, 2, 0] rfl ?_
  refine V.wide (k' := 3200 + 1 * 0) (n' := 83000 + 6 * 0) (by show 3150 + 1 + 1 ≤ _; omega) (by show 82500 + 6 + 6 ≤ _; omega) ?_
  exact law_188 hxs hg hg2 hL 16 0 _ _ (by omega) a2
set_option maxRecDepth 20000 in
set_option maxHeartbeats 8000000 in
theorem law_138 {X : KX} (hxs : X.1.stackTraces = false) (hg : GX X) (hg2 : GP2 X) (hL : kL X ≤ 260) {x : Nat} {le lc lf : Int32} {ln : List Int32} : ∀ (g k : Nat) (h : AH) (txt : List Int32), k + g = 6 → OpW X h x (eS (1 + k)) (eP (1 + k)) (eS 0) 1 le lc lf txt ln → V X mL_law (FL X) (3100 + 1 * k) (82000 + 6 * k) 138 [(0, .ref (kb X)), (1, .ref x), (2, .int (nI k))] [] h := by
  intro g
  induction g with
  | zero =>
    intro k h txt hk hW
    obtain rfl : k = 6 := by omega
    refine V_iload_n dL_law_138 2 rfl ?_
    refine V_bipush (v := 6) dL_law_139 (by decide) ?_
    refine V_icmp_ge (tgt := 160) dL_law_141 (by decide) (fun _ => ?_) (fun c9 => absurd (show (6 : Int32) ≤ nI 6 by decide) c9)
    refine V.loc [0, 1] rfl ?_
    refine V.wide (k' := 3150) (n' := 82500) (by omega) (by omega) ?_
    exact law_160 hxs hg hg2 hL hW
  | succ g ih =>
    intro k h txt hk hW
    have hk9 : k < 6 := by omega
    refine V_iload_n dL_law_138 2 rfl ?_
    refine V_bipush (v := 6) dL_law_139 (by decide) ?_
    refine V_icmp_ge (tgt := 160) dL_law_141 (by decide) (fun c9 => absurd c9 (show ¬ (6 : Int32) ≤ nI k from nI_ge (a := k) (b := 6) hk9 (by omega))) (fun _ => ?_)
    refine V_aload_n dL_law_144 1 rfl ?_
    have hC145 := c_L_addPerformer hxs hg hW
    rw [e_join k hk9] at hC145
    refine V_cSHi (r := (nI k)) (As := [.ref x]) (rest := []) dL_law_145 cvL_167 hC145 ⟨Nat.le_of_ble_eq_true rfl, Nat.le_of_ble_eq_true rfl, by show (3100 + 1 * k) + 1 ≤ room_1.cells; have := lwr_c; omega, by show (82000 + 6 * k) + 6 ≤ room_1.slots; have := lwr_s; omega⟩ (Nat.le_of_ble_eq_true rfl) rfl (fun h145 q145 => ?_)
    have hW1 : OpW X h145 x (eS (1 + (k + 1))) (eP (1 + (k + 1))) (eS 0) 1 le lc lf txt ln := q145
    refine V_iload_n dL_law_148 2 rfl ?_
    refine V_icmp_eq (tgt := 154) dL_law_149 (by decide) (fun _ => ?_) (fun c9 => absurd rfl c9)
    refine V_iinc (v := nI (k + 1)) (lv' := [(2, .int (nI (k + 1))), (0, .ref (kb X)), (1, .ref x)]) dL_law_154 2 rfl (iinc1 k) (by decide) rfl ?_
    refine V_goto (tgt := 138) dL_law_157 (by decide) ?_
    refine V.loc [1, 2, 0] rfl ?_
    refine V_recount (show (3100 + 1 * k) + 1 = 3100 + 1 * (k + 1) by omega) (show (82000 + 6 * k) + 6 = 82000 + 6 * (k + 1) by omega) ?_
    exact ih (k + 1) _ _ (by omega) hW1
set_option maxRecDepth 20000 in
set_option maxHeartbeats 8000000 in
theorem law_77 {X : KX} (hxs : X.1.stackTraces = false) (hg : GX X) (hg2 : GP2 X) (hL : kL X ≤ 260) {h : AH} {x : Nat} {le lc lf : Int32} {ln : List Int32} (hW : OpW X h x (eS 1) (eP 1) (eS 0) 1 le lc lf (eT 60) ln) : V X mL_law (FL X) 2900 80000 77 [(0, .ref (kb X)), (1, .ref x)] [] h := by
  refine V_aload_n dL_law_77 1 rfl ?_
  refine V_bipush (v := 112) dL_law_78 (by decide) ?_
  have hC80 := c_L_append hxs hg hW (b := 112) (by omega)
  rw [e_t60.1, e_t60.2] at hC80
  refine V_cSHi (r := (-1002)) (As := [.ref x, .int 112]) (rest := []) dL_law_80 cvL_149 hC80 ⟨Nat.le_of_ble_eq_true rfl, Nat.le_of_ble_eq_true rfl, by show 2900 + 2 ≤ room_1.cells; have := lwr_c; omega, by show 80000 + 134 ≤ room_1.slots; have := lwr_s; omega⟩ (Nat.le_of_ble_eq_true rfl) rfl (fun h80 q80 => ?_)
  have a1 : OpW X h80 x (eS 1) (eP 1) (eS 0) 1 le lc lf (eT 60) ln := q80
  refine V_sipush (v := (-1002)) dL_law_83 (by decide) ?_
  refine V_icmp_ne (tgt := 134) dL_law_86 (by decide) (fun c9 => absurd c9 (fun q9 => q9 rfl)) (fun _ => ?_)
  refine V_aload_n dL_law_89 1 rfl ?_
  refine V_callSH (As := [.ref x]) (rest := []) dL_law_90 cvL_154 (c_L_run hxs hg a1) ⟨Nat.le_of_ble_eq_true rfl, Nat.le_of_ble_eq_true rfl, by show 2900 + 2 + 1 ≤ room_1.cells; have := lwr_c; omega, by show 80000 + 134 + 6 ≤ room_1.slots; have := lwr_s; omega⟩ (Nat.le_of_ble_eq_true rfl) rfl (fun v h90 hz => ?_) (fun E h90 hz => by obtain ⟨e9, -⟩ := run_not e_r60 hz; cases e9)
  obtain ⟨e9, a2⟩ := run_not e_r60 hz
  cases e9
  refine V_sipush (v := (-1001)) dL_law_93 (by decide) ?_
  refine V_icmp_ne (tgt := 134) dL_law_96 (by decide) (fun c9 => absurd c9 (fun q9 => q9 rfl)) (fun _ => ?_)
  refine V_aload_n dL_law_99 1 rfl ?_
  have hC100 := c_L_errorPosition hxs hg a2
  refine V_cSHi (r := 0) (As := [.ref x]) (rest := []) dL_law_100 cvL_308 hC100 ⟨Nat.le_of_ble_eq_true rfl, Nat.le_of_ble_eq_true rfl, by show 2900 + 2 + 1 + 1 ≤ room_1.cells; have := lwr_c; omega, by show 80000 + 134 + 6 + 6 ≤ room_1.slots; have := lwr_s; omega⟩ (Nat.le_of_ble_eq_true rfl) rfl (fun h100 a3 => ?_)
  refine V_if_ne (tgt := 134) dL_law_103 (by decide) (fun c9 => absurd c9 (fun q9 => q9 rfl)) (fun _ => ?_)
  refine V_aload_n dL_law_106 1 rfl ?_
  refine V_bipush (v := 112) dL_law_107 (by decide) ?_
  have hC109 := c_L_append hxs hg a3 (b := 112) (by omega)
  rw [e_p.1, e_p.2] at hC109
  refine V_cSHi (r := 1) (As := [.ref x, .int 112]) (rest := []) dL_law_109 cvL_149 hC109 ⟨Nat.le_of_ble_eq_true rfl, Nat.le_of_ble_eq_true rfl, by show 2900 + 2 + 1 + 1 + 2 ≤ room_1.cells; have := lwr_c; omega, by show 80000 + 134 + 6 + 6 + 134 ≤ room_1.slots; have := lwr_s; omega⟩ (Nat.le_of_ble_eq_true rfl) rfl (fun h109 q109 => ?_)
  have a4 : OpW X h109 x (eS 1) (eP 1) (eS 0) 1 (nI 0) lc lf [nI 112] ln := q109
  refine V_iconst (v := 1) dL_law_112 (by decide) ?_
  refine V_icmp_ne (tgt := 134) dL_law_113 (by decide) (fun c9 => absurd c9 (fun q9 => q9 rfl)) (fun _ => ?_)
  refine V_aload_n dL_law_116 1 rfl ?_
  refine V_callSH (As := [.ref x]) (rest := []) dL_law_117 cvL_154 (c_L_run hxs hg a4) ⟨Nat.le_of_ble_eq_true rfl, Nat.le_of_ble_eq_true rfl, by show 2900 + 2 + 1 + 1 + 2 + 1 ≤ room_1.cells; have := lwr_c; omega, by show 80000 + 134 + 6 + 6 + 134 + 6 ≤ room_1.slots; have := lwr_s; omega⟩ (Nat.le_of_ble_eq_true rfl) rfl (fun v h117 hz => ?_) (fun E h117 hz => by obtain ⟨e9, -⟩ := run_not e_rp hz; cases e9)
  obtain ⟨e9, a5⟩ := run_not e_rp hz
  cases e9
  refine V_sipush (v := (-1001)) dL_law_120 (by decide) ?_
  refine V_icmp_ne (tgt := 134) dL_law_123 (by decide) (fun c9 => absurd c9 (fun q9 => q9 rfl)) (fun _ => ?_)
  refine V_aload_n dL_law_126 1 rfl ?_
  have hC127 := c_L_errorPosition hxs hg a5
  refine V_cSHi (r := 1) (As := [.ref x]) (rest := []) dL_law_127 cvL_308 hC127 ⟨Nat.le_of_ble_eq_true rfl, Nat.le_of_ble_eq_true rfl, by show 2900 + 2 + 1 + 1 + 2 + 1 + 1 ≤ room_1.cells; have := lwr_c; omega, by show 80000 + 134 + 6 + 6 + 134 + 6 + 6 ≤ room_1.slots; have := lwr_s; omega⟩ (Nat.le_of_ble_eq_true rfl) rfl (fun h127 a6 => ?_)
  refine V_iconst (v := 1) dL_law_130 (by decide) ?_
  refine V_icmp_eq (tgt := 136) dL_law_131 (by decide) (fun _ => ?_) (fun c9 => absurd rfl c9)
  refine V_iconst (v := 0) dL_law_136 (by decide) ?_
  refine V_istore_n (lv' := [(2, .int 0), (0, .ref (kb X)), (1, .ref x)]) dL_law_137 rfl (by decide) rfl ?_
  refine V.loc [1, 2, 0] rfl ?_
  refine V.wide (k' := 3100 + 1 * 0) (n' := 82000 + 6 * 0) (by show 2900 + 2 + 1 + 1 + 2 + 1 + 1 ≤ _; omega) (by show 80000 + 134 + 6 + 6 + 134 + 6 + 6 ≤ _; omega) ?_
  exact law_138 hxs hg hg2 hL 6 0 _ _ (by omega) a6
set_option maxRecDepth 20000 in
set_option maxHeartbeats 8000000 in
theorem law_48 {X : KX} (hxs : X.1.stackTraces = false) (hg : GX X) (hg2 : GP2 X) (hL : kL X ≤ 260) {x : Nat} {le lc lf : Int32} {ln : List Int32} : ∀ (g k : Nat) (h : AH), k + g = 60 → OpW X h x (eS 1) (eP 1) (eS 0) 1 le lc lf (eT k) ln → V X mL_law (FL X) (1000 + 2 * k) (20000 + 134 * k) 48 [(0, .ref (kb X)), (1, .ref x), (2, .int (nI k))] [] h := by
  intro g
  induction g with
  | zero =>
    intro k h hk hW
    obtain rfl : k = 60 := by omega
    refine V_iload_n dL_law_48 2 rfl ?_
    refine V_bipush (v := 60) dL_law_49 (by decide) ?_
    refine V_icmp_ge (tgt := 77) dL_law_51 (by decide) (fun _ => ?_) (fun c9 => absurd (show (60 : Int32) ≤ nI 60 by decide) c9)
    refine V.loc [0, 1] rfl ?_
    refine V.wide (k' := 2900) (n' := 80000) (by omega) (by omega) ?_
    exact law_77 hxs hg hg2 hL hW
  | succ g ih =>
    intro k h hk hW
    have hk9 : k < 60 := by omega
    refine V_iload_n dL_law_48 2 rfl ?_
    refine V_bipush (v := 60) dL_law_49 (by decide) ?_
    refine V_icmp_ge (tgt := 77) dL_law_51 (by decide) (fun c9 => absurd c9 (show ¬ (60 : Int32) ≤ nI k from nI_ge (a := k) (b := 60) hk9 (by omega))) (fun _ => ?_)
    refine V_aload_n dL_law_54 1 rfl ?_
    refine V_bipush (v := 65) dL_law_55 (by decide) ?_
    refine V_iload_n dL_law_57 2 rfl ?_
    refine V_iadd dL_law_58 ?_
    refine V_i2c dL_law_59 (e_i2c k hk9) ?_
    have hC60 := c_L_append hxs hg hW (b := 65 + k) (by omega)
    rw [(e_txt k hk9).1, (e_txt k hk9).2] at hC60
    refine V_cSHi (r := nI (k + 1)) (As := [.ref x, .int (nI (65 + k))]) (rest := []) dL_law_60 cvL_149 hC60 ⟨Nat.le_of_ble_eq_true rfl, Nat.le_of_ble_eq_true rfl, by show (1000 + 2 * k) + 2 ≤ room_1.cells; have := lwr_c; omega, by show (20000 + 134 * k) + 134 ≤ room_1.slots; have := lwr_s; omega⟩ (Nat.le_of_ble_eq_true rfl) rfl (fun h60 q60 => ?_)
    have hW1 : OpW X h60 x (eS 1) (eP 1) (eS 0) 1 le lc lf (eT (k + 1)) ln := q60
    refine V_iload_n dL_law_63 2 rfl ?_
    refine V_iconst (v := 1) dL_law_64 (by decide) ?_
    refine V_iadd dL_law_65 ?_
    refine V_icmp_eq (tgt := 71) dL_law_66 (by decide) (fun _ => ?_) (fun c9 => absurd (nI_succ k) c9)
    refine V_iinc (v := nI (k + 1)) (lv' := [(2, .int (nI (k + 1))), (0, .ref (kb X)), (1, .ref x)]) dL_law_71 2 rfl (iinc1 k) (by decide) rfl ?_
    refine V_goto (tgt := 48) dL_law_74 (by decide) ?_
    refine V.loc [1, 2, 0] rfl ?_
    refine V_recount (show (1000 + 2 * k) + 2 = 1000 + 2 * (k + 1) by omega) (show (20000 + 134 * k) + 134 = 20000 + 134 * (k + 1) by omega) ?_
    exact ih (k + 1) _ (by omega) hW1
set_option maxRecDepth 20000 in
set_option maxHeartbeats 8000000 in
theorem c_L_law {X : KX} (hxs : X.1.stackTraces = false) (hg : GX X) (hg2 : GP2 X) (hL : kL X ≤ 260) {h : AH} : Ct X mL_law [.ref (kb X)] h (zM (some (.int 1)) (fun _ => True)) := by
  refine Ct.of (by decide) rfl (Nat.le_of_ble_eq_true rfl) rfl hxs ?_
  refine V_newB (ci := 9) (N := 10) (b := h.1) (fs := [.null, .null, .null, .null, .null, .null, .int 0, .int 0, .int 0, .int 0]) rfl dL_law_0 wNRL_8 iGX7 tyX7_ok rfl (by decide) ⟨by show 0 + 1 ≤ room_1.cells; have := lwr_c; omega, by show 0 + 10 ≤ room_1.slots; have := lwr_s; omega⟩ (fun h1 he1 f_o fk => ?_)
  refine V_dup dL_law_3 rfl ?_
  refine V_cI (As := []) (rest := [.ref h.1]) dL_law_4 cvL_318 rfl rfl rfl (c_X7_init hxs hg hg2 he1 f_o) ⟨Nat.le_of_ble_eq_true rfl, Nat.le_of_ble_eq_true rfl, by show 0 + 1 + 184 ≤ room_1.cells; have := lwr_c; omega, by show 0 + 10 + 2136 ≤ room_1.slots; have := lwr_s; omega⟩ (Nat.le_of_ble_eq_true rfl) rfl (fun h2 q2 => ?_)
  obtain ⟨hW0, hz2, fk2⟩ := q2
  rw [e_0] at hW0
  refine V_astore_n (lv' := [(1, .ref h.1), (0, .ref (kb X))]) dL_law_7 rfl (by decide) rfl ?_
  refine V_aload_n dL_law_8 0 rfl ?_
  refine V_cSHi (As := [.ref h.1]) (rest := []) dL_law_9 cvL_319 (c_L_undo0 hxs hg hW0) ⟨Nat.le_of_ble_eq_true rfl, Nat.le_of_ble_eq_true rfl, by show 0 + 1 + 184 + 1 ≤ room_1.cells; have := lwr_c; omega, by show 0 + 10 + 2136 + 6 ≤ room_1.slots; have := lwr_s; omega⟩ (Nat.le_of_ble_eq_true rfl) rfl (fun h3 hW1 => ?_)
  refine V_sipush (v := (-1001)) dL_law_12 (by decide) ?_
  refine V_icmp_ne (tgt := 44) dL_law_15 (by decide) (fun c9 => absurd c9 (fun q9 => q9 rfl)) (fun _ => ?_)
  refine V_aload_n dL_law_18 0 rfl ?_
  refine V_cSHi (As := [.ref h.1]) (rest := []) dL_law_19 cvL_321 (c_L_restore0 hxs hg hW1) ⟨Nat.le_of_ble_eq_true rfl, Nat.le_of_ble_eq_true rfl, by show 0 + 1 + 184 + 1 + 1 ≤ room_1.cells; have := lwr_c; omega, by show 0 + 10 + 2136 + 6 + 6 ≤ room_1.slots; have := lwr_s; omega⟩ (Nat.le_of_ble_eq_true rfl) rfl (fun h4 hW2 => ?_)
  refine V_sipush (v := (-1001)) dL_law_22 (by decide) ?_
  refine V_icmp_ne (tgt := 44) dL_law_25 (by decide) (fun c9 => absurd c9 (fun q9 => q9 rfl)) (fun _ => ?_)
  refine V_aload_n dL_law_28 0 rfl ?_
  refine V_cVmi (As := []) (rest := []) dL_law_29 cvL_323 (c_X7_save hxs hg hW2) hW2.obj rfl ⟨Nat.le_of_ble_eq_true rfl, Nat.le_of_ble_eq_true rfl, by show 0 + 1 + 184 + 1 + 1 + 0 ≤ room_1.cells; have := lwr_c; omega, by show 0 + 10 + 2136 + 6 + 6 + 0 ≤ room_1.slots; have := lwr_s; omega⟩ (Nat.le_of_ble_eq_true rfl) rfl (fun h5 hW3 => ?_)
  rw [e_z0]
  refine V_if_ne (tgt := 44) dL_law_32 (by decide) (fun c9 => absurd c9 (fun q9 => q9 rfl)) (fun _ => ?_)
  refine V_aload_n dL_law_35 0 rfl ?_
  refine V_bipush (v := 40) dL_law_36 (by decide) ?_
  have hC38 := c_L_advance hxs hg hW3 40
  rw [e_adv] at hC38
  refine V_cSHi (r := 0) (As := [.ref h.1, .int 40]) (rest := []) dL_law_38 cvL_179 hC38 ⟨Nat.le_of_ble_eq_true rfl, Nat.le_of_ble_eq_true rfl, by show 0 + 1 + 184 + 1 + 1 + 0 + 1 ≤ room_1.cells; have := lwr_c; omega, by show 0 + 10 + 2136 + 6 + 6 + 0 + 6 ≤ room_1.slots; have := lwr_s; omega⟩ (Nat.le_of_ble_eq_true rfl) rfl (fun h6 q6 => ?_)
  have hW4 : OpW X h6 h.1 (eS 1) (eP 1) (eS 0) 1 (-1) (-1) (-1) (eT 0) [] := q6
  refine V_if_eq (tgt := 46) dL_law_41 (by decide) (fun _ => ?_) (fun c9 => absurd rfl c9)
  refine V_iconst (v := 0) dL_law_46 (by decide) ?_
  refine V_istore_n (lv' := [(2, .int 0), (1, .ref h.1), (0, .ref (kb X))]) dL_law_47 rfl (by decide) rfl ?_
  refine V.loc [2, 1, 0] rfl ?_
  refine V.wide (k' := 1000 + 2 * 0) (n' := 20000 + 134 * 0) (by show 0 + 1 + 184 + 1 + 1 + 0 + 1 ≤ _; omega) (by show 0 + 10 + 2136 + 6 + 6 + 0 + 6 ≤ _; omega) ?_
  exact law_48 hxs hg hg2 hL 60 0 _ (by omega) hW4
