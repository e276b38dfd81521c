/-! ===== the reader of commands, second: numbers, parts, forms ===== -/
def rNum (t : List Int32) : Nat → Nat → Nat → Nat → Nat × Nat × Nat
  | 0, p, num, dg => (p, num, dg)
  | f + 1, p, num, dg => if dgB t p then rNum t f (p + 1) (10 * num + (chA t p - 48)) (dg + 1) else (p, num, dg)
def rPart (t : List Int32) (c p : Nat) (nums : List Nat) : Bool × Nat × List Nat := if c = 35 then (decide (0 < (rNum t 1 p 0 0).2.2), (rNum t 1 p 0 0).1, addN nums (rNum t 1 p 0 0).2.1) else if c = 42 then (decide (0 < (rNum t 3 p 0 0).2.2), (rNum t 3 p 0 0).1, addN nums (rNum t 3 p 0 0).2.1) else (sgB t p c, if sgB t p c then p + 1 else p, nums)
def rForm (t sh : List Int32) : Nat → Nat → Nat → List Nat → Bool × Nat × List Nat
  | 0, _, p, nums => (true, p, nums)
  | f + 1, i, p, nums => if (rPart t (chA sh i) p nums).1 then rForm t sh f (i + 1) (rPart t (chA sh i) p nums).2.1 (rPart t (chA sh i) p nums).2.2 else (false, (rPart t (chA sh i) p nums).2.1, (rPart t (chA sh i) p nums).2.2)
def shp (j : Nat) : List Int32 := gT.getD (gSh.getD j 0) []
def rCmd (t : List Int32) (st : Nat) : Nat → Nat → Nat → Option Nat × Nat × List Nat
  | 0, _, fu => (none, fu, [])
  | f + 1, j, fu => if (rForm t (shp j) (shp j).length 0 st []).1 then (some j, (rForm t (shp j) (shp j).length 0 st []).2.1, (rForm t (shp j) (shp j).length 0 st []).2.2) else rCmd t st f (j + 1) (max fu (rForm t (shp j) (shp j).length 0 st []).2.1)
theorem dgB_spec {t : List Int32} {p : Nat} (h : dgB t p = true) : p < t.length ∧ 48 ≤ chA t p ∧ chA t p ≤ 57 := by
  unfold dgB at h
  simp only [Bool.and_eq_true, decide_eq_true_eq] at h
  exact ⟨h.1, h.2.1, h.2.2⟩
theorem rNum_bd {t : List Int32} {B : Nat} (hB : t.length ≤ B) : ∀ (f p num dg : Nat), p ≤ B → (rNum t f p num dg).1 ≤ B ∧ dg ≤ (rNum t f p num dg).2.2 ∧ (rNum t f p num dg).2.2 ≤ dg + f := by
  intro f
  induction f with
  | zero => intro p num dg h; exact ⟨h, Nat.le_refl _, Nat.le_refl _⟩
  | succ f ih =>
    intro p num dg h
    rw [rNum]
    split
    · rename_i hd
      have := ih (p + 1) (10 * num + (chA t p - 48)) (dg + 1) (by have := (dgB_spec hd).1; omega)
      exact ⟨this.1, by omega, by omega⟩
    · exact ⟨h, Nat.le_refl _, Nat.le_add_right _ _⟩
theorem sgB_lt {t : List Int32} {p c : Nat} (h : sgB t p c = true) : p < t.length := by
  unfold sgB at h
  simp only [Bool.and_eq_true, decide_eq_true_eq] at h
  exact h.1
theorem rPart_bd {t : List Int32} {B : Nat} (hB : t.length ≤ B) {c p : Nat} {nums : List Nat} (h : p ≤ B) : (rPart t c p nums).2.1 ≤ B := by
  unfold rPart
  split
  · exact (rNum_bd hB _ _ _ _ h).1
  · split
    · exact (rNum_bd hB _ _ _ _ h).1
    · show (if sgB t p c then p + 1 else p) ≤ B
      split
      · rename_i hs
        have := sgB_lt hs
        omega
      · exact h
theorem rForm_bd {t sh : List Int32} {B : Nat} (hB : t.length ≤ B) : ∀ (f i p : Nat) (nums : List Nat), p ≤ B → (rForm t sh f i p nums).2.1 ≤ B := by
  intro f
  induction f with
  | zero => intro i p nums h; exact h
  | succ f ih =>
    intro i p nums h
    rw [rForm]
    split
    · exact ih _ _ _ (rPart_bd hB h)
    · exact rPart_bd hB h
theorem mulN (a b : Nat) : nI a * nI b = nI (a * b) := (Int32.ofNat_mul a b).symm
/-- what the reader's methods leave: the commands but k as they were, k's form and numbers -/
def RdP (X : KX) (h h' : AH) (x k f : Nat) (cm : Nat → Nat × List Int32 × Int32) (cnt : Int32) (t : List Int32) (p : Nat) (nums : List Nat) : Prop := (∃ cm', RdRaw X h' x cm' cnt (nI p) t ∧ CmdIs (cm' k) f nums ∧ ∀ j, j ≠ k → cm' j = cm j) ∧ Outs h h' (x + 147) 36
set_option maxRecDepth 20000 in
set_option maxHeartbeats 1000000 in
theorem c_X2_readNumber {X : KX} (hxs : X.1.stackTraces = false) (hg : GX X) {h : AH} {x p k : Nat} {cm : Nat → Nat × List Int32 × Int32} {cnt : Int32} {t : List Int32} (hR : RdRaw X h x cm cnt (nI p) t) (hk : k < 16) {f : Nat} {nums : List Nat} (hI : CmdIs (cm k) f nums) (ht : t.length ≤ 128) (hp9 : p ≤ 128) {most : Nat} (hm : most ≤ 3) : Ct X mX2_readNumber [.ref (x + 147), .int (nI most), .ref (x + 151 + 2 * k)] h (zM (some (.int (if 0 < (rNum t most p 0 0).2.2 then 1 else 0))) (fun h' => RdP X h h' x k f cm cnt t (rNum t most p 0 0).1 (addN nums (rNum t most p 0 0).2.1))) := by
  refine Ct.of (by decide) rfl (Nat.le_of_ble_eq_true rfl) rfl hxs ?_
  have L5 : ∀ (g dg p0 num : Nat) (h0 : AH), dg + g = most → p0 ≤ 128 → RdRaw X h0 x cm cnt (nI p0) t → (∀ h1, RdRaw X h1 x cm cnt (nI (rNum t g p0 num dg).1) t → Outs h0 h1 (x + 147) 36 → V X mX2_readNumber (zF X mX2_readNumber (zM (some (.int (if 0 < (rNum t most p 0 0).2.2 then 1 else 0))) (fun h' => RdP X h h' x k f cm cnt t (rNum t most p 0 0).1 (addN nums (rNum t most p 0 0).2.1)))) 0 0 54 [(0, .ref (x + 147)), (1, .int (nI most)), (2, .ref (x + 151 + 2 * k)), (3, .int (nI (rNum t g p0 num dg).2.1)), (4, .int (nI (rNum t g p0 num dg).2.2))] [] h1) → V X mX2_readNumber (zF X mX2_readNumber (zM (some (.int (if 0 < (rNum t most p 0 0).2.2 then 1 else 0))) (fun h' => RdP X h h' x k f cm cnt t (rNum t most p 0 0).1 (addN nums (rNum t most p 0 0).2.1)))) 0 0 5 [(0, .ref (x + 147)), (1, .int (nI most)), (2, .ref (x + 151 + 2 * k)), (3, .int (nI num)), (4, .int (nI dg))] [] h0 := by
    intro g
    induction g with
    | zero =>
      intro dg p0 num h0 hdg hp0 hR0 kk
      refine V_iload dX2_readNumber_5 4 rfl ?_
      refine V_iload_n dX2_readNumber_7 1 rfl ?_
      refine V_icmp_ge (tgt := 54) dX2_readNumber_8 (by decide) (fun _ => ?_) (fun c9 => absurd (nI_le (by omega) (by omega)) c9)
      exact kk h0 hR0 Outs.rf
    | succ g ih =>
      intro dg p0 num h0 hdg hp0 hR0 kk
      by_cases hd : dgB t p0 = true
      · have hs := dgB_spec hd
        obtain ⟨v, L9, ml, hS, hv9, hT⟩ := id hR0.2.1
        have hl9 := hS.2.2.2.2.2.1
        refine V_iload dX2_readNumber_5 4 rfl ?_
        refine V_iload_n dX2_readNumber_7 1 rfl ?_
        refine V_icmp_ge (tgt := 54) dX2_readNumber_8 (by decide) (fun c9 => absurd c9 (nI_ge (by omega) (by omega))) (fun _ => ?_)
        refine V_aload_n dX2_readNumber_11 0 rfl ?_
        refine V_cVi (As := []) (rest := []) dX2_readNumber_12 cvX2_84 (c_X2_isDigitNext hxs hg hR0 (by omega)) hR0.1 rfl ⟨Nat.le_of_ble_eq_true rfl, Nat.le_of_ble_eq_true rfl, Nat.le_of_ble_eq_true rfl, Nat.le_of_ble_eq_true rfl⟩ (Nat.le_of_ble_eq_true rfl) rfl ?_
        rw [if_pos hd]
        refine V_if_eq (tgt := 54) dX2_readNumber_15 (by decide) (fun c9 => absurd c9 (by decide)) (fun _ => ?_)
        refine V_bipush (v := 10) dX2_readNumber_18 (by decide) ?_
        refine V_iload_n dX2_readNumber_20 3 rfl ?_
        refine V_imul dX2_readNumber_21 ?_
        rw [show (10 : Int32) * nI num = nI (10 * num) from mulN 10 num]
        refine V_aload_n dX2_readNumber_22 0 rfl ?_
        refine gf_rd_text hR0 dX2_readNumber_23 flX2_12 ?_
        refine V_aload_n dX2_readNumber_26 0 rfl ?_
        refine gf_rd_position hR0 dX2_readNumber_27 flX2_28 ?_
        refine V_cVg (As := [.int (nI p0)]) (rest := [.int (nI (10 * num))]) (Q := fun h1 => h1 = h0) dX2_readNumber_30 cuX2_83 (c_charAt hxs hg hS hT.1 hs.1 (hT.ch hs.1).1 (hT.ch hs.1).2) hS.1 rfl ⟨Nat.le_of_ble_eq_true rfl, Nat.le_of_ble_eq_true rfl, Nat.le_of_ble_eq_true rfl, Nat.le_of_ble_eq_true rfl⟩ (Nat.le_of_ble_eq_true rfl) rfl (fun h1 e1 => ?_)
        rw [e1]
        refine V_bipush (v := 48) dX2_readNumber_33 (by decide) ?_
        refine V_isub dX2_readNumber_35 ?_
        rw [show nI (chA t p0) - 48 = nI (chA t p0 - 48) from pk_sub (b := 48) hs.2.1]
        refine V_iadd dX2_readNumber_36 ?_
        rw [nI_add]
        refine V_istore_n (lv' := [(3, .int (nI (10 * num + (chA t p0 - 48)))), (0, .ref (x + 147)), (1, .int (nI most)), (2, .ref (x + 151 + 2 * k)), (4, .int (nI dg))]) dX2_readNumber_37 rfl (by decide) rfl ?_
        refine V_aload_n dX2_readNumber_38 1 rfl ?_
        refine V_dup dX2_readNumber_39 rfl ?_
        refine gf_rd_position hR0 dX2_readNumber_40 flX2_28 ?_
        refine V_iconst (v := 1) dX2_readNumber_43 (by decide) ?_
        refine V_iadd dX2_readNumber_44 ?_
        rw [show nI p0 + 1 = nI (p0 + 1) from nI_1 p0]
        refine pf_rd_position hR0 dX2_readNumber_45 flX2_28 (fun h2 hR2 hO2 => ?_)
        refine V_iinc (v := nI (dg + 1)) (lv' := [(4, .int (nI (dg + 1))), (3, .int (nI (10 * num + (chA t p0 - 48)))), (0, .ref (x + 147)), (1, .int (nI most)), (2, .ref (x + 151 + 2 * k))]) dX2_readNumber_48 4 rfl (iinc1 dg) (by decide) rfl ?_
        refine V_goto (tgt := 5) dX2_readNumber_51 (by decide) ?_
        refine V.loc [2, 3, 4, 1, 0] rfl ?_
        refine ih (dg + 1) (p0 + 1) (10 * num + (chA t p0 - 48)) h2 (by omega) (by omega) hR2 (fun h3 hR3 hO3 => ?_)
        have := kk h3
        rw [rNum, if_pos hd] at this
        exact this hR3 (hO2.tr hO3)
      · have kk := kk h0
        rw [rNum, if_neg hd] at kk
        refine V_iload dX2_readNumber_5 4 rfl ?_
        refine V_iload_n dX2_readNumber_7 1 rfl ?_
        refine V_icmp_ge (tgt := 54) dX2_readNumber_8 (by decide) (fun c9 => absurd c9 (nI_ge (by omega) (by omega))) (fun _ => ?_)
        refine V_aload_n dX2_readNumber_11 0 rfl ?_
        refine V_cVi (As := []) (rest := []) dX2_readNumber_12 cvX2_84 (c_X2_isDigitNext hxs hg hR0 (by omega)) hR0.1 rfl ⟨Nat.le_of_ble_eq_true rfl, Nat.le_of_ble_eq_true rfl, Nat.le_of_ble_eq_true rfl, Nat.le_of_ble_eq_true rfl⟩ (Nat.le_of_ble_eq_true rfl) rfl ?_
        rw [if_neg hd]
        refine V_if_eq (tgt := 54) dX2_readNumber_15 (by decide) (fun _ => ?_) (fun c9 => absurd rfl c9)
        exact kk hR0 Outs.rf
  refine V_iconst (v := 0) dX2_readNumber_0 (by decide) ?_
  refine V_istore_n (lv' := [(3, .int 0), (0, .ref (x + 147)), (1, .int (nI most)), (2, .ref (x + 151 + 2 * k))]) dX2_readNumber_1 rfl (by decide) rfl ?_
  refine V_iconst (v := 0) dX2_readNumber_2 (by decide) ?_
  refine V_istore (lv' := [(4, .int 0), (3, .int 0), (0, .ref (x + 147)), (1, .int (nI most)), (2, .ref (x + 151 + 2 * k))]) dX2_readNumber_3 (by decide) rfl ?_
  refine V.loc [2, 3, 4, 1, 0] rfl ?_
  refine L5 most 0 p 0 h (by omega) hp9 hR (fun h1 hR1 hO1 => ?_)
  have hbd := rNum_bd ht most p 0 0 hp9
  generalize rNum t most p 0 0 = r at hR1 hbd ⊢
  refine V_aload_n dX2_readNumber_54 2 rfl ?_
  refine V_iload_n dX2_readNumber_55 3 rfl ?_
  refine V_cVmv (As := [.int (nI r.2.1)]) (rest := []) dX2_readNumber_56 cvX2_88 (c_X1_add hxs (hR1.2.2.2 k hk) hI) (hR1.2.2.2 k hk).1 rfl ⟨Nat.le_of_ble_eq_true rfl, Nat.le_of_ble_eq_true rfl, Nat.le_of_ble_eq_true rfl, Nat.le_of_ble_eq_true rfl⟩ (Nat.le_of_ble_eq_true rfl) rfl (fun h2 q2 => ?_)
  obtain ⟨⟨C', hC', hI'⟩, hO2⟩ := q2
  have hR2 := hR1.cmd hk hC' hO2
  have hP : RdP X h h2 x k f cm cnt t r.1 (addN nums r.2.1) := ⟨⟨_, hR2, by unfold updC; rw [if_pos rfl]; exact hI', fun j hj => by unfold updC; rw [if_neg hj]⟩, hO1.tr (hO2.up (by omega) (by omega))⟩
  refine V_iload dX2_readNumber_59 4 rfl ?_
  refine V_if_le (tgt := 68) dX2_readNumber_61 (by decide) (fun c1 => ?_) (fun c1 => ?_)
  · have e1 : ¬ 0 < r.2.2 := fun g => nI_nle g (by omega) c1
    refine V_iconst (v := 0) dX2_readNumber_68 (by decide) ?_
    exact V_zret dX2_readNumber_69 rfl bN0 ⟨Nat.le_of_ble_eq_true rfl, Nat.le_of_ble_eq_true rfl⟩ ⟨by rw [if_neg e1], hP⟩
  · have e1 : 0 < r.2.2 := by
      rcases Nat.eq_zero_or_pos r.2.2 with g | g
      · exact absurd (by rw [g]; decide) c1
      · exact g
    refine V_iconst (v := 1) dX2_readNumber_64 (by decide) ?_
    refine V_goto (tgt := 69) dX2_readNumber_65 (by decide) ?_
    exact V_zret dX2_readNumber_69 rfl bN1 ⟨Nat.le_of_ble_eq_true rfl, Nat.le_of_ble_eq_true rfl⟩ ⟨by rw [if_pos e1], hP⟩
set_option maxRecDepth 20000 in
set_option maxHeartbeats 1000000 in
theorem c_X2_readPart {X : KX} (hxs : X.1.stackTraces = false) (hg : GX X) {h : AH} {x p k : Nat} {cm : Nat → Nat × List Int32 × Int32} {cnt : Int32} {t : List Int32} (hR : RdRaw X h x cm cnt (nI p) t) (hk : k < 16) {f : Nat} {nums : List Nat} (hI : CmdIs (cm k) f nums) (ht : t.length ≤ 128) (hp9 : p ≤ 128) {c : Nat} (hc : c < 128) : Ct X mX2_readPart [.ref (x + 147), .int (nI c), .ref (x + 151 + 2 * k)] h (zM (some (.int (if (rPart t c p nums).1 then 1 else 0))) (fun h' => RdP X h h' x k f cm cnt t (rPart t c p nums).2.1 (rPart t c p nums).2.2)) := by
  refine Ct.of (by decide) rfl (Nat.le_of_ble_eq_true rfl) rfl hxs ?_
  by_cases h1 : c = 35
  · have hz : rPart t c p nums = (decide (0 < (rNum t 1 p 0 0).2.2), (rNum t 1 p 0 0).1, addN nums (rNum t 1 p 0 0).2.1) := by unfold rPart; rw [if_pos h1]
    rw [hz]
    refine V_iload_n dX2_readPart_0 1 rfl ?_
    refine V_bipush (v := 35) dX2_readPart_1 (by decide) ?_
    refine V_icmp_ne (tgt := 13) dX2_readPart_3 (by decide) (fun c9 => absurd c9 (fun e9 => e9 (congrArg nI h1))) (fun _ => ?_)
    refine V_aload_n dX2_readPart_6 0 rfl ?_
    refine V_iconst (v := 1) dX2_readPart_7 (by decide) ?_
    refine V_aload_n dX2_readPart_8 2 rfl ?_
    refine V_cVmi (As := [.int 1, .ref (x + 151 + 2 * k)]) (rest := []) dX2_readPart_9 cvX2_79 (c_X2_readNumber hxs hg hR hk hI ht hp9 (most := 1) (by decide)) hR.1 rfl ⟨Nat.le_of_ble_eq_true rfl, Nat.le_of_ble_eq_true rfl, Nat.le_of_ble_eq_true rfl, Nat.le_of_ble_eq_true rfl⟩ (Nat.le_of_ble_eq_true rfl) rfl (fun h1 q1 => ?_)
    exact V_zret dX2_readPart_12 rfl (bN (by split <;> simp)) ⟨Nat.le_of_ble_eq_true rfl, Nat.le_of_ble_eq_true rfl⟩ ⟨by simp only [decide_eq_true_eq], q1⟩
  · by_cases h2 : c = 42
    · have hz : rPart t c p nums = (decide (0 < (rNum t 3 p 0 0).2.2), (rNum t 3 p 0 0).1, addN nums (rNum t 3 p 0 0).2.1) := by unfold rPart; rw [if_neg h1, if_pos h2]
      rw [hz]
      refine V_iload_n dX2_readPart_0 1 rfl ?_
      refine V_bipush (v := 35) dX2_readPart_1 (by decide) ?_
      refine V_icmp_ne (tgt := 13) dX2_readPart_3 (by decide) (fun _ => ?_) (fun c9 => absurd c9 (fun e9 => h1 ((nI_eq (by omega) (by decide)).mp (show nI c = nI 35 from e9))))
      refine V_iload_n dX2_readPart_13 1 rfl ?_
      refine V_bipush (v := 42) dX2_readPart_14 (by decide) ?_
      refine V_icmp_ne (tgt := 26) dX2_readPart_16 (by decide) (fun c9 => absurd c9 (fun e9 => e9 (congrArg nI h2))) (fun _ => ?_)
      refine V_aload_n dX2_readPart_19 0 rfl ?_
      refine V_iconst (v := 3) dX2_readPart_20 (by decide) ?_
      refine V_aload_n dX2_readPart_21 2 rfl ?_
      refine V_cVmi (As := [.int 3, .ref (x + 151 + 2 * k)]) (rest := []) dX2_readPart_22 cvX2_79 (c_X2_readNumber hxs hg hR hk hI ht hp9 (most := 3) (by decide)) hR.1 rfl ⟨Nat.le_of_ble_eq_true rfl, Nat.le_of_ble_eq_true rfl, Nat.le_of_ble_eq_true rfl, Nat.le_of_ble_eq_true rfl⟩ (Nat.le_of_ble_eq_true rfl) rfl (fun h1 q1 => ?_)
      exact V_zret dX2_readPart_25 rfl (bN (by split <;> simp)) ⟨Nat.le_of_ble_eq_true rfl, Nat.le_of_ble_eq_true rfl⟩ ⟨by simp only [decide_eq_true_eq], q1⟩
    · have hz : rPart t c p nums = (sgB t p c, if sgB t p c then p + 1 else p, nums) := by unfold rPart; rw [if_neg h1, if_neg h2]
      rw [hz]
      refine V_iload_n dX2_readPart_0 1 rfl ?_
      refine V_bipush (v := 35) dX2_readPart_1 (by decide) ?_
      refine V_icmp_ne (tgt := 13) dX2_readPart_3 (by decide) (fun _ => ?_) (fun c9 => absurd c9 (fun e9 => h1 ((nI_eq (by omega) (by decide)).mp (show nI c = nI 35 from e9))))
      refine V_iload_n dX2_readPart_13 1 rfl ?_
      refine V_bipush (v := 42) dX2_readPart_14 (by decide) ?_
      refine V_icmp_ne (tgt := 26) dX2_readPart_16 (by decide) (fun _ => ?_) (fun c9 => absurd c9 (fun e9 => h2 ((nI_eq (by omega) (by decide)).mp (show nI c = nI 42 from e9))))
      refine V_aload_n dX2_readPart_26 0 rfl ?_
      refine V_iload_n dX2_readPart_27 1 rfl ?_
      refine V_cVmi (As := [.int (nI c)]) (rest := []) dX2_readPart_28 cvX2_40 (c_X2_readSign hxs hg hR (by omega) hc) hR.1 rfl ⟨Nat.le_of_ble_eq_true rfl, Nat.le_of_ble_eq_true rfl, Nat.le_of_ble_eq_true rfl, Nat.le_of_ble_eq_true rfl⟩ (Nat.le_of_ble_eq_true rfl) rfl (fun h1 q1 => ?_)
      exact V_zret dX2_readPart_31 rfl (bN (by split <;> simp)) ⟨Nat.le_of_ble_eq_true rfl, Nat.le_of_ble_eq_true rfl⟩ ⟨rfl, ⟨cm, q1.1, hI, fun _ _ => rfl⟩, q1.2⟩
