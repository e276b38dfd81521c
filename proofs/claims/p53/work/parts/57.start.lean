/-! ===== the start: what the premises give ===== -/
def FN : List Cond := flatC (.and given_1 narrow_1)
def strT (i : Nat) : Term := .string (gS.getD i ("", 0, "")).1 (gS.getD i ("", 0, "")).2.1
def strV (i : Nat) : Term := .field (strT i) "java/lang/String" "value" "[B"
def strAts (i : Nat) : List Cond := .exactly (strT i) "java/lang/String" :: .eq (.field (strT i) "java/lang/String" "coder" "B") (.int 0) :: .arrayOf (strV i) .byte :: .eq (.length (strV i)) (.int (nI (gT.getD i []).length)) :: (List.range (gT.getD i []).length).map (fun j => .eq (.elem (strV i) (.int (nI j))) (.int ((gT.getD i []).getD j 0)))
def strO : List Nat := [0, 1, 2, 3, 4, 5, 6, 7, 8, 9, 10, 11, 12, 13, 14, 15, 16, 17, 18, 19, 20, 21, 22, 23, 24, 25, 26, 27, 28, 29, 30, 31, 32, 33, 34, 35, 36, 37, 38, 39, 40, 41, 42, 43, 44, 45, 46, 47, 48, 49, 50, 51]
set_option maxRecDepth 100000 in
theorem st_strs : (FN.drop 463).take 1179 = strO.flatMap strAts := by decide +kernel
theorem st_so : ∀ i, i < 52 → i ∈ strO := by decide +kernel
section ST
variable {s : State} {args : Array Value} {A : Nat → Prop}
def HN (args : Array Value) (s : State) : Prop := ∀ w ∈ FN, w.before args s = true
def HT (args : Array Value) (s : State) : Prop := ∀ w ∈ tables_1, w.before args s = true
theorem st_i (hf : HN args s) (i : Nat) {w : Cond} (h : FN[i]? = some w) : w.before args s = true := hf w (List.mem_of_getElem? h)
theorem st_t (ht : HT args s) (i : Nat) {w : Cond} (h : tables_1[i]? = some w) : w.before args s = true := ht w (List.mem_of_getElem? h)
theorem st_sub {a n : Nat} {L : List Cond} (e : (FN.drop a).take n = L) (hf : HN args s) : ∀ w ∈ L, w.before args s = true := fun w hw => hf w (List.mem_of_mem_drop (List.mem_of_mem_take (by rw [e]; exact hw)))
theorem st_O (hf : HN args s) (hA : ∀ a : Nat, a < s.heap.size → ¬ A a) (i : Nat) (hi : i < 52) : ∃ q : Nat × Nat, (strT i).eval args s none [] s = some (.ref q.1) ∧ va_O "java/lang/String" q.1 A s s.heap ∧ va_OF "java/lang/String" "coder" "B" (.int 0) q.1 A s s.heap ∧ va_OF "java/lang/String" "value" "[B" (.ref q.2) q.1 A s s.heap ∧ va_T .byte q.2 (gT.getD i []).length (fun j => .int ((gT.getD i []).getD j 0)) A s s.heap := by
  have h : ∀ w ∈ strAts i, w.before args s = true := fun w hw => st_sub st_strs hf w (List.mem_flatMap.mpr ⟨i, st_so i hi, hw⟩)
  have h1 : (Cond.exactly (strT i) "java/lang/String").before args s = true := h _ List.mem_cons_self
  have h2 : (Cond.eq (.field (strT i) "java/lang/String" "coder" "B") (.int 0)).before args s = true := h _ (List.mem_cons_of_mem _ List.mem_cons_self)
  have h3 : (Cond.arrayOf (strV i) .byte).before args s = true := h _ (List.mem_cons_of_mem _ (List.mem_cons_of_mem _ List.mem_cons_self))
  have h4 : (Cond.eq (.length (strV i)) (.int (nI (gT.getD i []).length))).before args s = true := h _ (List.mem_cons_of_mem _ (List.mem_cons_of_mem _ (List.mem_cons_of_mem _ List.mem_cons_self)))
  have h5 : ∀ j, j < (gT.getD i []).length → (Cond.eq (.elem (strV i) (.int (nI j))) (.int ((gT.getD i []).getD j 0))).before args s = true := fun j hj => h _ (List.mem_cons_of_mem _ (List.mem_cons_of_mem _ (List.mem_cons_of_mem _ (List.mem_cons_of_mem _ (List.mem_map.mpr ⟨j, List.mem_range.mpr hj, rfl⟩)))))
  obtain ⟨a, c, cA, kA, q1, -⟩ := Cond.exactly_spec (args := args) (first := s) (o := none) (s := s) (idx := []) (t := strT i) (cls := "java/lang/String") h1
  obtain ⟨t, ht, hT⟩ := va_Tof (tm := strV i) (ty := .byte) (N := (gT.getD i []).length) (f := fun j => .int ((gT.getD i []).getD j 0)) (A := A) (by have := gT_len i hi; omega) h3 (va_eqt h4) (fun j hj => va_eqt (h5 j hj)) hA
  exact ⟨(a, t), q1, va_Oof h1 q1 hA, vk_OFof q1 (va_eqt h2) hA, vk_OFof q1 ht hA, hT⟩
theorem st_R : ∀ q ∈ gS, Cond.stringRef q.1 q.2.1 q.2.2 ∈ tables_1 := by decide +kernel
set_option maxRecDepth 100000 in
theorem st_tense : (FN.drop 136).take 100 = (List.range 100).map (fun j => Cond.eq (.elem (Term.static "java/lang/Integer" "DigitTens" "[B") (.int (nI j))) (.int (nI (48 + j / 10)))) := by decide +kernel
theorem st_tens (hf : HN args s) (ht : HT args s) (hA : ∀ a : Nat, a < s.heap.size → ¬ A a) : ∃ t : Nat, va_Z "java/lang/Integer" "DigitTens" "[B" (.ref t) A s s.heap ∧ va_T .byte t 100 (fun j => .int (nI (48 + j / 10))) A s s.heap := by
  obtain ⟨t, e, hT⟩ := va_Tof (tm := (Term.static "java/lang/Integer" "DigitTens" "[B")) (ty := .byte) (N := 100) (f := fun j => .int (nI (48 + j / 10))) (A := A) (by omega) (st_i hf 134 (by decide +kernel)) (va_eqt (st_i hf 135 (by decide +kernel))) (fun j hj => va_eqt (st_sub st_tense hf _ (List.mem_map.mpr ⟨j, List.mem_range.mpr hj, rfl⟩))) hA
  exact ⟨t, va_Zof (st_t ht 927 (by decide +kernel)) (st_t ht 27 (by decide +kernel)) e hA, hT⟩
set_option maxRecDepth 100000 in
theorem st_onese : (FN.drop 33).take 100 = (List.range 100).map (fun j => Cond.eq (.elem (Term.static "java/lang/Integer" "DigitOnes" "[B") (.int (nI j))) (.int (nI (48 + j % 10)))) := by decide +kernel
theorem st_ones (hf : HN args s) (ht : HT args s) (hA : ∀ a : Nat, a < s.heap.size → ¬ A a) : ∃ t : Nat, va_Z "java/lang/Integer" "DigitOnes" "[B" (.ref t) A s s.heap ∧ va_T .byte t 100 (fun j => .int (nI (48 + j % 10))) A s s.heap := by
  obtain ⟨t, e, hT⟩ := va_Tof (tm := (Term.static "java/lang/Integer" "DigitOnes" "[B")) (ty := .byte) (N := 100) (f := fun j => .int (nI (48 + j % 10))) (A := A) (by omega) (st_i hf 31 (by decide +kernel)) (va_eqt (st_i hf 32 (by decide +kernel))) (fun j hj => va_eqt (st_sub st_onese hf _ (List.mem_map.mpr ⟨j, List.mem_range.mpr hj, rfl⟩))) hA
  exact ⟨t, va_Zof (st_t ht 925 (by decide +kernel)) (st_t ht 27 (by decide +kernel)) e hA, hT⟩
set_option maxRecDepth 100000 in
theorem st_swe : (FN.drop 239).take 11 = (List.range 11).map (fun j => Cond.eq (.elem (Term.static "SilentOpera$1" "$SwitchMap$SilentOpera$Form" "[I") (.int (nI j))) (.int (if j < 10 then nI (j + 1) else 0))) := by decide +kernel
theorem st_sw (hf : HN args s) (ht : HT args s) (hA : ∀ a : Nat, a < s.heap.size → ¬ A a) : ∃ t : Nat, va_Z "SilentOpera$1" "$SwitchMap$SilentOpera$Form" "[I" (.ref t) A s s.heap ∧ va_T .int t 11 (fun j => .int (if j < 10 then nI (j + 1) else 0)) A s s.heap := by
  obtain ⟨t, e, hT⟩ := va_Tof (tm := (Term.static "SilentOpera$1" "$SwitchMap$SilentOpera$Form" "[I")) (ty := .int) (N := 11) (f := fun j => .int (if j < 10 then nI (j + 1) else 0)) (A := A) (by omega) (st_i hf 237 (by decide +kernel)) (va_eqt (st_i hf 238 (by decide +kernel))) (fun j hj => va_eqt (st_sub st_swe hf _ (List.mem_map.mpr ⟨j, List.mem_range.mpr hj, rfl⟩))) hA
  exact ⟨t, va_Zof (st_t ht 1033 (by decide +kernel)) (st_t ht 29 (by decide +kernel)) e hA, hT⟩
def frN : List String := ["PERFORMER", "PAY", "WHISPER", "MOUTH_CUE", "PROP_CUE", "HUSH_CUE", "CANCEL", "MOVE", "LIMIT", "ADVANCE", "ACT"]
def frT (j : Nat) : Term := .static "SilentOpera$Form" (frN.getD j "") "LSilentOpera$Form;"
def frAts (j : Nat) : List Cond := [.exactly (frT j) "SilentOpera$Form", .eq (.field (frT j) "java/lang/Enum" "ordinal" "I") (.int (nI j)), .eq (.field (frT j) "SilentOpera$Form" "shape" "Ljava/lang/String;") (strT (gSh.getD j 0)), .eq (.elem (Term.static "SilentOpera$CommandReader" "FORMS" "[LSilentOpera$Form;") (.int (nI j))) (frT j)]
def frI : List (List Nat) := [[250, 251, 252, 19], [254, 255, 256, 20], [259, 260, 261, 21], [265, 266, 267, 22], [272, 273, 274, 23], [280, 281, 282, 24], [289, 290, 291, 25], [299, 300, 301, 26], [310, 311, 312, 27], [322, 323, 324, 28], [5, 6, 7, 29]]
theorem st_fr : ∀ j, j < 11 → (frI.getD j []).map (fun i => FN[i]?) = (frAts j).map some := by decide +kernel
theorem st_frm (hf : HN args s) {j : Nat} (hj : j < 11) : ∀ w ∈ frAts j, w.before args s = true := fun w hw => by
  have : some w ∈ (frI.getD j []).map (fun i => FN[i]?) := by rw [st_fr j hj]; exact List.mem_map.mpr ⟨w, hw, rfl⟩
  obtain ⟨i, -, e⟩ := List.mem_map.mp this
  exact st_i hf i e
theorem st_form (hf : HN args s) (hA : ∀ a : Nat, a < s.heap.size → ¬ A a) (j : Nat) (hj : j < 11) : ∃ a : Nat, (frT j).eval args s none [] s = some (.ref a) ∧ va_OF "java/lang/Enum" "ordinal" "I" (.int (nI j)) a A s s.heap ∧ va_O "SilentOpera$Form" a A s s.heap ∧ (∀ q : Nat, (strT (gSh.getD j 0)).eval args s none [] s = some (.ref q) → va_OF "SilentOpera$Form" "shape" "Ljava/lang/String;" (.ref q) a A s s.heap) ∧ (Term.elem (Term.static "SilentOpera$CommandReader" "FORMS" "[LSilentOpera$Form;") (.int (nI j))).eval args s none [] s = some (.ref a) := by
  have h := st_frm hf hj
  have h1 := h (.exactly (frT j) "SilentOpera$Form") List.mem_cons_self
  have h2 := h (.eq (.field (frT j) "java/lang/Enum" "ordinal" "I") (.int (nI j))) (List.mem_cons_of_mem _ List.mem_cons_self)
  have h3 := h (.eq (.field (frT j) "SilentOpera$Form" "shape" "Ljava/lang/String;") (strT (gSh.getD j 0))) (List.mem_cons_of_mem _ (List.mem_cons_of_mem _ List.mem_cons_self))
  have h4 := h (.eq (.elem (Term.static "SilentOpera$CommandReader" "FORMS" "[LSilentOpera$Form;") (.int (nI j))) (frT j)) (List.mem_cons_of_mem _ (List.mem_cons_of_mem _ (List.mem_cons_of_mem _ List.mem_cons_self)))
  obtain ⟨a, c, cA, kA, q1, -⟩ := Cond.exactly_spec (args := args) (first := s) (o := none) (s := s) (idx := []) (t := frT j) (cls := "SilentOpera$Form") h1
  exact ⟨a, q1, vk_OFof q1 (va_eqt h2) hA, va_Oof h1 q1 hA, fun q hq => vk_OFof q1 (va_eqv h3 hq) hA, va_eqv h4 q1⟩
theorem st_forms (hf : HN args s) (ht : HT args s) (hA : ∀ a : Nat, a < s.heap.size → ¬ A a) (ad : Nat → Nat) (had : ∀ j, j < 11 → (Term.elem (Term.static "SilentOpera$CommandReader" "FORMS" "[LSilentOpera$Form;") (.int (nI j))).eval args s none [] s = some (.ref (ad j))) : ∃ t : Nat, va_Z "SilentOpera$CommandReader" "FORMS" "[LSilentOpera$Form;" (.ref t) A s s.heap ∧ va_T (.object "SilentOpera$Form") t 11 (fun j => .ref (ad j)) A s s.heap := by
  obtain ⟨t, e, hT⟩ := va_Tof (tm := (Term.static "SilentOpera$CommandReader" "FORMS" "[LSilentOpera$Form;")) (ty := .object "SilentOpera$Form") (N := 11) (f := fun j => .ref (ad j)) (A := A) (by omega) (st_i hf 16 (by decide +kernel)) (va_eqt (st_i hf 17 (by decide +kernel))) (fun j hj => had j hj) hA
  exact ⟨t, va_Zof (st_t ht 789 (by decide +kernel)) (st_t ht 6 (by decide +kernel)) e hA, hT⟩
theorem st_act (hf : HN args s) (ht : HT args s) (hA : ∀ a : Nat, a < s.heap.size → ¬ A a) {a : Nat} (ha : (frT 10).eval args s none [] s = some (.ref a)) : va_Z "SilentOpera$Form" "ACT" "LSilentOpera$Form;" (.ref a) A s s.heap := va_Zof (st_t ht 224 (by decide +kernel)) (st_t ht 13 (by decide +kernel)) ha hA
theorem st_Z (hf : HN args s) (ht : HT args s) (hA : ∀ a : Nat, a < s.heap.size → ¬ A a) : vx_Zq Bundle.tN "UNASSIGNED_STACK" Bundle.steD A s s.heap ∧ vx_Zq Bundle.tN "SUPPRESSED_SENTINEL" Bundle.listD A s s.heap := ⟨vx_Zqof (st_t ht 369 (by decide +kernel)) (st_t ht 14 (by decide +kernel)) (st_i hf 8 (by decide +kernel)) hA, vx_Zqof (st_t ht 371 (by decide +kernel)) (st_t ht 14 (by decide +kernel)) (st_i hf 9 (by decide +kernel)) hA⟩
theorem st_N (hf : HN args s) (ht : HT args s) (hA : ∀ a : Nat, a < s.heap.size → ¬ A a) : va_Zq "jdk/internal/util/Preconditions" "SIOOBE_FORMATTER" "Ljava/util/function/BiFunction;" A s s.heap := va_Zqof (st_t ht 748 (by decide +kernel)) (st_t ht 23 (by decide +kernel)) (st_i hf 10 (by decide +kernel)) hA
theorem st_C (hf : HN args s) (ht : HT args s) (hA : ∀ a : Nat, a < s.heap.size → ¬ A a) : va_Z "java/lang/String" "COMPACT_STRINGS" "Z" (.int 1) A s s.heap := va_Zof (st_t ht 193 (by decide +kernel)) (st_t ht 9 (by decide +kernel)) (va_eqi (st_i hf 4 (by decide +kernel))) hA
def ncI : List Nat := [335, 336, 337, 338, 339, 340, 341, 342, 343, 344, 345, 346, 347, 348, 349, 350, 351, 352, 353, 354, 355, 356, 357, 358, 359, 360, 361, 362, 363, 364, 365, 366, 367, 368, 369, 370, 371, 372, 373, 374, 375, 376, 377, 378, 379, 380, 381, 382, 383, 384, 385, 386, 387, 388, 389, 390, 391, 392, 393, 394, 395, 396, 397, 398, 399, 400, 401, 402, 403, 404, 405, 406, 407, 408, 409, 410, 411, 412, 413, 414, 415, 416, 417, 418, 419, 420, 421, 422, 423, 424, 425, 426, 427, 428, 429, 430, 431, 432, 433, 434, 435, 436, 437, 438, 439, 440, 441, 442, 443, 444, 445, 446, 447, 448, 449, 450, 451, 452, 453, 454, 455, 456, 457, 458, 459, 460, 461, 462]
theorem st_nc : ncI.map (fun i => FN[i]?) = gNc.map (fun q => some (Cond.not (.castable q.1 q.2))) := by decide +kernel
theorem st_Q (hf : HN args s) : ∀ q ∈ gNc, va_Nc q.1 q.2 s := fun q hq => by
  have : some (Cond.not (.castable q.1 q.2)) ∈ ncI.map (fun i => FN[i]?) := by rw [st_nc]; exact List.mem_map.mpr ⟨q, hq, rfl⟩
  obtain ⟨i, -, e⟩ := List.mem_map.mp this
  exact va_Nc.of (st_i hf i e)
theorem st_P (ht : HT args s) : ∀ w ∈ GPW, ∀ U : State, s.WarmedH U.vm → va_Nw w U := fun w hw U hW => by
  have hm := List.mem_filter.mp hw
  have h0 : va_Nw w s := va_Nw.of (dcp_ot hm.2) (ht w hm.1)
  have hd := hm.2
  cases w <;> first | exact va_Nw.warmD hW h0 | exact va_Nw.warmC hW h0 | exact va_tabs rfl (rfl : (s.setVm U.vm).vm = U.vm) (by rw [Cond.privateMethod_setVm hW.alike]; exact h0) | (exfalso; simp [isDCP] at hd)
def isO : Cond → Bool
  | .arrayOver (.object _) => true
  | .methodLinkNest _ _ _ _ => true
  | _ => false
theorem st_isO : ∀ w ∈ GPN, isO w = true := by decide +kernel
theorem isO_spec {w : Cond} (h : isO w = true) : (∃ C, w = .arrayOver (.object C)) ∨ ∃ a i x y, w = .methodLinkNest a i x y := by
  unfold isO at h
  split at h
  · exact Or.inl ⟨_, rfl⟩
  · exact Or.inr ⟨_, _, _, _, rfl⟩
  · cases h
theorem st_P2 (ht : HT args s) : ∀ w ∈ GPN, ∀ U : State, s.WarmedH U.vm → va_Nw w U := fun w hw U hW => by
  have hb := ht w (List.mem_filter.mp hw).1
  rcases isO_spec (st_isO w hw) with ⟨C, e⟩ | ⟨a, i, x, y, e⟩
  · subst e
    exact va_AO.moved hW.alike (va_AO.of hb)
  · subst e
    exact va_Nw.warmM hW (va_Nw.of rfl hb)
set_option maxRecDepth 20000 in
theorem iTJx00060 : ∀ w ∈ u_ws RJx00060 TJx00060 6, w ∈ tables_1 := by
  intro w hw
  obtain ⟨j, hj, rfl⟩ := List.mem_map.mp hw
  have hj : j < 6 := List.mem_range.mp hj
  match j, hj with
  | 0, _ => exact List.mem_of_getElem? (i := 432) (by decide +kernel)
  | 1, _ => exact List.mem_of_getElem? (i := 433) (by decide +kernel)
  | 2, _ => exact List.mem_of_getElem? (i := 434) (by decide +kernel)
  | 3, _ => exact List.mem_of_getElem? (i := 435) (by decide +kernel)
  | 4, _ => exact List.mem_of_getElem? (i := 436) (by decide +kernel)
  | 5, _ => exact List.mem_of_getElem? (i := 437) (by decide +kernel)
  | j + 6, h => exact absurd h (by omega)
set_option maxRecDepth 20000 in
theorem iTJx7c733 : ∀ w ∈ u_ws RJx7c733 TJx7c733 6, w ∈ tables_1 := by
  intro w hw
  obtain ⟨j, hj, rfl⟩ := List.mem_map.mp hw
  have hj : j < 6 := List.mem_range.mp hj
  match j, hj with
  | 0, _ => exact List.mem_of_getElem? (i := 990) (by decide +kernel)
  | 1, _ => exact List.mem_of_getElem? (i := 991) (by decide +kernel)
  | 2, _ => exact List.mem_of_getElem? (i := 992) (by decide +kernel)
  | 3, _ => exact List.mem_of_getElem? (i := 993) (by decide +kernel)
  | 4, _ => exact List.mem_of_getElem? (i := 994) (by decide +kernel)
  | 5, _ => exact List.mem_of_getElem? (i := 995) (by decide +kernel)
  | j + 6, h => exact absurd h (by omega)
theorem gw_tbl9 {w : Cond} (h : w ∈ GW) : w ∈ lw_tbl := (List.mem_filter.mp h).1
theorem st_cls (hts : ∀ w ∈ lw_tbl, w.before args s = true) : ∃ (dC : Nat → ClassId) (dI : Nat → Nat → Nat), ∀ (k : Nat) (q : vw_C), vwCl[k]? = some q → u_Kn s q.1 q.2.1 q.2.2 (dC k) (dI k) := by
  have ht : HT args s := fun w hw => hts w (List.mem_append_right _ hw)
  obtain ⟨c0, i0, k0⟩ := u_known (C := RJ0) (T := TJ0) (N := 4) (n := 4) (fun w hw => hts w (gw_tbl9 hw)) iGJ0 (st_t ht 443 (by decide +kernel))
  obtain ⟨c1, i1, k1⟩ := u_known (C := RJ4) (T := TJ4) (N := 4) (n := 4) (fun w hw => hts w (gw_tbl9 hw)) iGJ4 (st_t ht 184 (by decide +kernel))
  obtain ⟨c2, i2, k2⟩ := u_known (C := RJx00060) (T := TJx00060) (N := 6) (n := 6) ht iTJx00060 (st_t ht 425 (by decide +kernel))
  obtain ⟨c3, i3, k3⟩ := u_known (C := RJx7c733) (T := TJx7c733) (N := 6) (n := 6) ht iTJx7c733 (st_t ht 865 (by decide +kernel))
  obtain ⟨c4, i4, k4⟩ := u_known (C := RX1) (T := TX1) (N := 3) (n := 3) (fun w hw => hts w (gw_tbl9 hw)) iGX1 (st_t ht 218 (by decide +kernel))
  obtain ⟨c5, i5, k5⟩ := u_known (C := RX2) (T := TX2) (N := 4) (n := 4) (fun w hw => hts w (gw_tbl9 hw)) iGX2 (st_t ht 178 (by decide +kernel))
  obtain ⟨c6, i6, k6⟩ := u_known (C := RX3) (T := TX3) (N := 10) (n := 10) (fun w hw => hts w (gw_tbl9 hw)) iGX3 (st_t ht 50 (by decide +kernel))
  obtain ⟨c7, i7, k7⟩ := u_known (C := RX5) (T := TX5) (N := 3) (n := 3) (fun w hw => hts w (gw_tbl9 hw)) iGX5 (st_t ht 158 (by decide +kernel))
  obtain ⟨c8, i8, k8⟩ := u_known (C := RX6) (T := TX6) (N := 14) (n := 14) (fun w hw => hts w (gw_tbl9 hw)) iGX6 (st_t ht 44 (by decide +kernel))
  obtain ⟨c9, i9, k9⟩ := u_known (C := RX7) (T := TX7) (N := 10) (n := 10) (fun w hw => hts w (gw_tbl9 hw)) iGX7 (st_t ht 36 (by decide +kernel))
  refine ⟨fun k => [c0, c1, c2, c3, c4, c5, c6, c7, c8, c9].getD k c0, fun k => [i0, i1, i2, i3, i4, i5, i6, i7, i8, i9].getD k i0, ?_⟩
  intro k q hq
  match k, hq with
  | 0, hq => cases hq; exact k0
  | 1, hq => cases hq; exact k1
  | 2, hq => cases hq; exact k2
  | 3, hq => cases hq; exact k3
  | 4, hq => cases hq; exact k4
  | 5, hq => cases hq; exact k5
  | 6, hq => cases hq; exact k6
  | 7, hq => cases hq; exact k7
  | 8, hq => cases hq; exact k8
  | 9, hq => cases hq; exact k9
  | k + 10, hq => simp [vwCl] at hq
theorem arr_known {cA : ClassId} {ty : FieldType} {k : Class} {comp : ClassId} (h : s.vm.classes[cA]? = some k) (hk : k.kind = .array comp ty) : ArrOfT s cA ty := fun n z => ⟨fun x hx => (by cases hx), k, h, comp, hk⟩
theorem st_prim (ht : HT args s) {ty : FieldType} (h : (Cond.arrayClass ty).before args s = true) : ∃ c, s.vm.findClass ("[" ++ ty.toString) = some c ∧ ArrOfT s c ty := by
  obtain ⟨c, k, comp, h1, h2, h3⟩ := Cond.arrayClass_spec (args := args) (first := s) (o := none) (s := s) (idx := []) h
  exact ⟨c, h1, arr_known h2 h3⟩
theorem st_obj {C : String} (h : (Cond.arrayOver (.object C)).before args s = true) : ∃ c, ArrOfT s c (.object C) ∧ va_RA s c (.object C) := by
  obtain ⟨comp, c, k, h1, -, h2, h3, h4⟩ := Cond.arrayOver_spec (args := args) (first := s) (o := none) (s := s) (idx := []) (n := C) h
  exact ⟨c, arr_known h2 h3, k, comp, h2, h3, h1, h4⟩
theorem st_arr (ht : HT args s) : ∃ dA : Nat → ClassId, ∀ (k : Nat) (q : ClassId × FieldType), [(dA 0, FieldType.int), (dA 1, .char), (dA 2, .byte), (dA 3, .long), (dA 4, .object "SilentOpera$Sheet"), (dA 5, .object "SilentOpera$Command")][k]? = some q → ArrOfT s q.1 q.2 ∧ va_RA s q.1 q.2 := by
  obtain ⟨c0, h0, k0⟩ := st_prim ht (ty := .int) (st_t ht 101 (by decide +kernel))
  obtain ⟨c1, h1, k1⟩ := st_prim ht (ty := .char) (st_t ht 102 (by decide +kernel))
  obtain ⟨c2, h2, k2⟩ := st_prim ht (ty := .byte) (st_t ht 215 (by decide +kernel))
  obtain ⟨c3, h3, k3⟩ := st_prim ht (ty := .long) (st_t ht 1480 (by decide +kernel))
  obtain ⟨c4, k4, h4⟩ := st_obj (C := "SilentOpera$Sheet") (st_t ht 164 (by decide +kernel))
  obtain ⟨c5, k5, h5⟩ := st_obj (C := "SilentOpera$Command") (st_t ht 217 (by decide +kernel))
  refine ⟨fun k => [c0, c1, c2, c3, c4, c5].getD k c0, ?_⟩
  intro k q hq
  match k, hq with
  | 0, hq => cases hq; exact ⟨k0, h0⟩
  | 1, hq => cases hq; exact ⟨k1, h1⟩
  | 2, hq => cases hq; exact ⟨k2, h2⟩
  | 3, hq => cases hq; exact ⟨k3, h3⟩
  | 4, hq => cases hq; exact ⟨k4, h4⟩
  | 5, hq => cases hq; exact ⟨k5, h5⟩
  | k + 6, hq => simp at hq
/-- where the things are that were there -/
def kads (sa : Nat → Nat × Nat) (tens ones forms sw : Nat) (fa : Nat → Nat) (q : Nat) : Nat := if q < 100 then (sa q).1 else if q < 200 then (sa (q - 100)).2 else if q = 2000 then tens else if q = 2001 then ones else if q = 2002 then forms else if q = 2003 then sw else fa (q - 3000)
theorem st_all (l : Launch) {b L : Nat} {xs : Nat → Int32} (hts : ∀ w ∈ lw_tbl, w.before args s = true) (hf : HN args s) (hX : va_X b L xs s s.heap) (hb : b < s.heap.size) : ∃ X : KX, GX X ∧ GP2 X ∧ KS X s ∧ kl X = l ∧ kN X = s.heap.size ∧ kH X = s.heap ∧ kb X = b ∧ kL X = L ∧ kP X = fun _ => false := by
  have ht : HT args s := fun w hw => hts w (List.mem_append_right _ hw)
  obtain ⟨dC, dI, hcls⟩ := st_cls hts
  obtain ⟨dA, harr⟩ := st_arr ht
  have hA : ∀ a : Nat, a < s.heap.size → ¬ (s.heap.size ≤ a ∧ false = false) := fun a h c => absurd c.1 (Nat.not_le.mpr h)
  have h0 : ∀ i : Nat, ∃ q : Nat × Nat, i < 52 → (strT i).eval args s none [] s = some (.ref q.1) ∧ va_O "java/lang/String" q.1 (fun a => s.heap.size ≤ a ∧ false = false) s s.heap ∧ va_OF "java/lang/String" "coder" "B" (.int 0) q.1 (fun a => s.heap.size ≤ a ∧ false = false) s s.heap ∧ va_OF "java/lang/String" "value" "[B" (.ref q.2) q.1 (fun a => s.heap.size ≤ a ∧ false = false) s s.heap ∧ va_T .byte q.2 (gT.getD i []).length (fun j => .int ((gT.getD i []).getD j 0)) (fun a => s.heap.size ≤ a ∧ false = false) s s.heap := fun i => by
    by_cases hi : i < 52
    · obtain ⟨q, hq⟩ := st_O hf hA i hi
      exact ⟨q, fun _ => hq⟩
    · exact ⟨(0, 0), fun h => absurd h hi⟩
  obtain ⟨sa, hsa⟩ := Classical.axiomOfChoice h0
  have h1 : ∀ j : Nat, ∃ a : Nat, j < 11 → (frT j).eval args s none [] s = some (.ref a) ∧ va_OF "java/lang/Enum" "ordinal" "I" (.int (nI j)) a (fun a => s.heap.size ≤ a ∧ false = false) s s.heap ∧ va_O "SilentOpera$Form" a (fun a => s.heap.size ≤ a ∧ false = false) s s.heap ∧ (∀ q : Nat, (strT (gSh.getD j 0)).eval args s none [] s = some (.ref q) → va_OF "SilentOpera$Form" "shape" "Ljava/lang/String;" (.ref q) a (fun a => s.heap.size ≤ a ∧ false = false) s s.heap) ∧ (Term.elem (Term.static "SilentOpera$CommandReader" "FORMS" "[LSilentOpera$Form;") (.int (nI j))).eval args s none [] s = some (.ref a) := fun j => by
    by_cases hj : j < 11
    · obtain ⟨a, ha⟩ := st_form hf hA j hj
      exact ⟨a, fun _ => ha⟩
    · exact ⟨0, fun h => absurd h hj⟩
  obtain ⟨fa, hfa⟩ := Classical.axiomOfChoice h1
  obtain ⟨tens, hz1, ht1⟩ := st_tens hf ht hA
  obtain ⟨ones, hz2, ht2⟩ := st_ones hf ht hA
  obtain ⟨sw, hz3, ht3⟩ := st_sw hf ht hA
  obtain ⟨forms, hz4, ht4⟩ := st_forms hf ht hA fa (fun j hj => (hfa j hj).2.2.2.2)
  have hact := st_act hf ht hA (hfa 10 (by decide)).1
  have hz := st_Z hf ht hA
  have hn := st_N hf ht hA
  have hc := st_C hf ht hA
  have hq := st_Q hf
  have eS : ∀ i, i < 52 → kads sa tens ones forms sw fa i = (sa i).1 := fun i hi => if_pos (by omega)
  have eV : ∀ i, i < 52 → kads sa tens ones forms sw fa (100 + i) = (sa i).2 := fun i hi => by
    unfold kads
    rw [if_neg (by omega), if_pos (by omega), Nat.add_sub_cancel_left]
  have eF : ∀ j, kads sa tens ones forms sw fa (3000 + j) = fa j := fun j => by
    unfold kads
    rw [if_neg (by omega), if_neg (by omega), if_neg (by omega), if_neg (by omega), if_neg (by omega), if_neg (by omega), Nat.add_sub_cancel_left]
  have e0 : kads sa tens ones forms sw fa 2000 = tens := rfl
  have e1 : kads sa tens ones forms sw fa 2001 = ones := rfl
  have e2 : kads sa tens ones forms sw fa 2002 = forms := rfl
  have e3 : kads sa tens ones forms sw fa 2003 = sw := rfl
  generalize kads sa tens ones forms sw fa = ad at eS eV eF e0 e1 e2 e3
  have hSh : ∀ j, j < 11 → gSh.getD j 0 < 52 := by decide
  refine ⟨(l, dC, dI, dA, s.heap.size, s.heap, b, L, xs, ad, fun U => s.WarmedH U.vm, fun _ => false), ⟨?_, ?_, ?_, ?_, ?_, ?_, ?_, ?_, ?_⟩, ?_, ⟨⟨hcls, harr⟩, Nat.le_refl _, hb, hX, State.WarmedH.refl s, fun a b h1 h2 => State.WarmedH.trans h1 h2⟩, rfl, rfl, rfl, rfl, rfl, rfl⟩
  · exact fun U hU => ⟨vx_Zq.moved (State.WarmedH.alike hU) hz.1, vx_Zq.moved (State.WarmedH.alike hU) hz.2⟩
  · intro i own k tx hi U hU
    have hi52 : i < 52 := (List.getElem?_eq_some_iff.mp hi).1
    have eT : strT i = .string own k := by
      unfold strT
      rw [List.getD_eq_getElem?_getD, hi]
      rfl
    show vk_R own k tx (ad i) U
    rw [eS i hi52]
    exact vk_R.warm hU (vk_R.of (ht _ (st_R _ (List.mem_of_getElem? hi))) (eT ▸ (hsa i hi52).1))
  · exact fun U hU => va_Z.moved (State.WarmedH.alike hU) hc
  · intro U hU
    have hv := State.WarmedH.alike hU
    show va_Z _ _ _ (.ref (ad 2000)) _ _ _ ∧ va_T _ (ad 2000) _ _ _ _ _ ∧ va_Z _ _ _ (.ref (ad 2001)) _ _ _ ∧ va_T _ (ad 2001) _ _ _ _ _
    rw [e0, e1]
    exact ⟨va_Z.moved hv hz1, va_T.moved hv ht1, va_Z.moved hv hz2, va_T.moved hv ht2⟩
  · intro i hi U hU
    have hv := State.WarmedH.alike hU
    obtain ⟨-, g1, g2, g3, g4⟩ := hsa i hi
    show va_O _ (ad i) _ _ _ ∧ va_OF _ _ _ _ (ad i) _ _ _ ∧ va_OF _ _ _ (.ref (ad (100 + i))) (ad i) _ _ _ ∧ va_T _ (ad (100 + i)) _ _ _ _ _
    rw [eS i hi, eV i hi]
    exact ⟨va_O.moved hv g1, va_OF.moved hv g2, va_OF.moved hv g3, va_T.moved hv g4⟩
  · intro U hU
    have hv := State.WarmedH.alike hU
    show va_Z _ _ _ (.ref (ad 2002)) _ _ _ ∧ va_T _ (ad 2002) 11 (fun j => .ref (ad (3000 + j))) _ _ _ ∧ va_Z _ _ _ (.ref (ad (3000 + 10))) _ _ _ ∧ (∀ j, j < 11 → va_OF _ _ _ _ (ad (3000 + j)) _ _ _ ∧ va_O _ (ad (3000 + j)) _ _ _ ∧ va_OF _ _ _ (.ref (ad (gSh.getD j 0))) (ad (3000 + j)) _ _ _) ∧ va_Z _ _ _ (.ref (ad 2003)) _ _ _ ∧ va_T _ (ad 2003) _ _ _ _ _
    rw [e2, e3, eF 10, funext (fun j => congrArg Value.ref (eF j))]
    refine ⟨va_Z.moved hv hz4, va_T.moved hv ht4, va_Z.moved hv hact, fun j hj => ?_, va_Z.moved hv hz3, va_T.moved hv ht3⟩
    obtain ⟨-, g2, g3, g4, -⟩ := hfa j hj
    rw [eF j, eS _ (hSh j hj)]
    exact ⟨va_OF.moved hv g2, va_O.moved hv g3, va_OF.moved hv (g4 _ (hsa _ (hSh j hj)).1)⟩
  · exact fun U hU => va_Zq.moved (State.WarmedH.alike hU) hn
  · exact fun q hq1 U hU => va_Nc.moved (State.WarmedH.alike hU) (hq q hq1)
  · exact fun w hw U hU => st_P ht w hw U hU
  · exact fun w hw U hU => st_P2 ht w hw U hU
end ST
