/-! ===== the reader of commands ===== -/
def chA (t : List Int32) (p : Nat) : Nat := (t.getD p 0).toNatClampNeg
theorem Txt.ch {L t : List Int32} (h : Txt L t) {p : Nat} (hp : p < t.length) : chA t p < 128 ∧ L.getD p 0 = nI (chA t p) := by
  obtain ⟨b, hb, e⟩ := h.2.2 p hp
  have e2 : chA t p = b := by unfold chA; rw [e]; exact nI_clamp (by omega)
  rw [e2, h.2.1 p hp]
  exact ⟨hb, e⟩
def isDg (t : List Int32) (p : Nat) : Prop := p < t.length ∧ 48 ≤ chA t p ∧ chA t p ≤ 57
def addN (nums : List Nat) (x : Nat) : List Nat := if nums.length < 3 then nums ++ [x] else nums
section VRD
variable {X : KX} {M : MI} {F : FT} {k n pc : Nat} {lv lv' : List (Nat × Value)} {rest : List Value} {h : AH} {Z : ZT} {x : Nat} {cm : Nat → Nat × List Int32 × Int32} {cnt pos : Int32} {t : List Int32}
theorem gf_rd_text {idx : Nat} (p : RdRaw X h x cm cnt pos t) (hdg : decode (mcc M) pc = .ok (.getfield idx, 3)) (hw : Cond.fieldLink (my M).cls idx "SilentOpera$CommandReader" "text" "Ljava/lang/StringBuilder;" ∈ GW) (kk : V X M F k n (pc + 3) lv (.ref (x + 148) :: rest) h) : V X M F k n pc lv (.ref (x + 147) :: rest) h := V_get 0 hdg hw iGX2 rfl (by decide) rfl p.1 rfl kk
theorem gf_rd_commands {idx : Nat} (p : RdRaw X h x cm cnt pos t) (hdg : decode (mcc M) pc = .ok (.getfield idx, 3)) (hw : Cond.fieldLink (my M).cls idx "SilentOpera$CommandReader" "commands" "[LSilentOpera$Command;" ∈ GW) (kk : V X M F k n (pc + 3) lv (.ref (x + 150) :: rest) h) : V X M F k n pc lv (.ref (x + 147) :: rest) h := V_get 1 hdg hw iGX2 rfl (by decide) rfl p.1 rfl kk
theorem gf_rd_count {idx : Nat} (p : RdRaw X h x cm cnt pos t) (hdg : decode (mcc M) pc = .ok (.getfield idx, 3)) (hw : Cond.fieldLink (my M).cls idx "SilentOpera$CommandReader" "count" "I" ∈ GW) (kk : V X M F k n (pc + 3) lv (.int cnt :: rest) h) : V X M F k n pc lv (.ref (x + 147) :: rest) h := V_get 2 hdg hw iGX2 rfl (by decide) rfl p.1 rfl kk
theorem gf_rd_position {idx : Nat} (p : RdRaw X h x cm cnt pos t) (hdg : decode (mcc M) pc = .ok (.getfield idx, 3)) (hw : Cond.fieldLink (my M).cls idx "SilentOpera$CommandReader" "position" "I" ∈ GW) (kk : V X M F k n (pc + 3) lv (.int pos :: rest) h) : V X M F k n pc lv (.ref (x + 147) :: rest) h := V_get 3 hdg hw iGX2 rfl (by decide) rfl p.1 rfl kk
theorem pf_rd_count {idx : Nat} {w : Int32} (p : RdRaw X h x cm cnt pos t) (hdg : decode (mcc M) pc = .ok (.putfield idx, 3)) (hw : Cond.fieldLink (my M).cls idx "SilentOpera$CommandReader" "count" "I" ∈ GW) (kk : ∀ h1, RdRaw X h1 x cm w pos t → Outs h h1 (x + 147) 36 → V X M F k n (pc + 3) lv rest h1) : V X M F k n pc lv (.int w :: .ref (x + 147) :: rest) h := V_put 2 hdg hw iGX2 tyX2_ok nmX2 rfl (by decide) rfl rfl rfl p.1 rfl rfl (by simp) (kk _ ⟨hput_at, p.2.1.keep (Nat.le_refl _) (fun q _ hq => hput_ne (by omega)), (hput_ne (by omega)).trans p.2.2.1, fun k hk => (p.2.2.2 k hk).out (Outs.put (a := x + 147) (w := 1) (by omega) (by omega)) (by omega)⟩ (Outs.put (by omega) (by omega)))
theorem pf_rd_position {idx : Nat} {w : Int32} (p : RdRaw X h x cm cnt pos t) (hdg : decode (mcc M) pc = .ok (.putfield idx, 3)) (hw : Cond.fieldLink (my M).cls idx "SilentOpera$CommandReader" "position" "I" ∈ GW) (kk : ∀ h1, RdRaw X h1 x cm cnt w t → Outs h h1 (x + 147) 36 → V X M F k n (pc + 3) lv rest h1) : V X M F k n pc lv (.int w :: .ref (x + 147) :: rest) h := V_put 3 hdg hw iGX2 tyX2_ok nmX2 rfl (by decide) rfl rfl rfl p.1 rfl rfl (by simp) (kk _ ⟨hput_at, p.2.1.keep (Nat.le_refl _) (fun q _ hq => hput_ne (by omega)), (hput_ne (by omega)).trans p.2.2.1, fun k hk => (p.2.2.2 k hk).out (Outs.put (a := x + 147) (w := 1) (by omega) (by omega)) (by omega)⟩ (Outs.put (by omega) (by omega)))
theorem ld_rd {i : Nat} (p : RdRaw X h x cm cnt pos t) (hi : i < 16) (hdg : decode (mcc M) pc = .ok (.aaload, 1)) (kk : V X M F k n (pc + 1) lv (.ref (x + 151 + 2 * i) :: rest) h) : V X M F k n pc lv (.int (nI i) :: .ref (x + 150) :: rest) h := V_aald (t := 5) (C := "SilentOpera$Command") hdg rfl p.2.2.1 (vp_in_nI hi (by omega)) (by rw [nI_clamp (by omega)]) kk
end VRD
theorem isDg_dec (t : List Int32) (p : Nat) : isDg t p ∨ ¬ isDg t p := by
  by_cases h1 : p < t.length
  · by_cases h2 : 48 ≤ chA t p
    · by_cases h3 : chA t p ≤ 57
      · exact Or.inl ⟨h1, h2, h3⟩
      · exact Or.inr (fun q => h3 q.2.2)
    · exact Or.inr (fun q => h2 q.2.1)
  · exact Or.inr (fun q => h1 q.1)
def dgB (t : List Int32) (p : Nat) : Bool := decide (p < t.length) && (decide (48 ≤ chA t p) && decide (chA t p ≤ 57))
set_option maxRecDepth 20000 in
set_option maxHeartbeats 1000000 in
theorem c_X2_isDigitNext {X : KX} (hxs : X.1.stackTraces = false) (hg : GX X) {h : AH} {x p : Nat} {cm : Nat → Nat × List Int32 × Int32} {cnt : Int32} {t : List Int32} (hR : RdRaw X h x cm cnt (nI p) t) (hp9 : p < 2 ^ 30) : Ct X mX2_isDigitNext [.ref (x + 147)] h (zR (some (.int (if dgB t p then 1 else 0))) h) := by
  obtain ⟨v, L9, ml, hS, hv9, hT⟩ := id hR.2.1
  have hl9 := hS.2.2.2.2.2.1
  have hl8 := hT.1
  refine Ct.of (by decide) rfl (Nat.le_of_ble_eq_true rfl) rfl hxs ?_
  by_cases hp : p < t.length
  · by_cases h2 : 48 ≤ chA t p
    · by_cases h3 : chA t p ≤ 57
      · have hd : dgB t p = true := by simp [dgB, hp, h2, h3]
        refine V_aload_n dX2_isDigitNext_0 0 rfl ?_
        refine gf_rd_position hR dX2_isDigitNext_1 flX2_28 ?_
        refine V_aload_n dX2_isDigitNext_4 0 rfl ?_
        refine gf_rd_text hR dX2_isDigitNext_5 flX2_12 ?_
        refine V_cVg (As := []) (rest := [.int (nI p)]) (Q := fun h1 => h1 = h) dX2_isDigitNext_8 cuX2_36 (c_J4_length_8abf5 hxs hg hS.1) hS.1 rfl ⟨Nat.le_of_ble_eq_true rfl, Nat.le_of_ble_eq_true rfl, Nat.le_of_ble_eq_true rfl, Nat.le_of_ble_eq_true rfl⟩ (Nat.le_of_ble_eq_true rfl) rfl (fun h1 e1 => ?_)
        rw [e1]
        refine V_icmp_ge (tgt := 50) dX2_isDigitNext_11 (by decide) (fun c9 => absurd c9 (nI_ge hp (by omega))) (fun _ => ?_)
        refine V_aload_n dX2_isDigitNext_14 0 rfl ?_
        refine gf_rd_text hR dX2_isDigitNext_15 flX2_12 ?_
        refine V_aload_n dX2_isDigitNext_18 0 rfl ?_
        refine gf_rd_position hR dX2_isDigitNext_19 flX2_28 ?_
        refine V_cVg (As := [.int (nI p)]) (rest := []) (Q := fun h1 => h1 = h) dX2_isDigitNext_22 cuX2_83 (c_charAt hxs hg hS hT.1 hp (hT.ch hp).1 (hT.ch hp).2) hS.1 rfl ⟨Nat.le_of_ble_eq_true rfl, Nat.le_of_ble_eq_true rfl, Nat.le_of_ble_eq_true rfl, Nat.le_of_ble_eq_true rfl⟩ (Nat.le_of_ble_eq_true rfl) rfl (fun h1 e1 => ?_)
        rw [e1]
        refine V_bipush (v := 48) dX2_isDigitNext_25 (by decide) ?_
        refine V_icmp_lt (tgt := 50) dX2_isDigitNext_27 (by decide) (fun c9 => absurd c9 (nI_nlt (b := 48) h2 (by have := (hT.ch hp).1; omega))) (fun _ => ?_)
        refine V_aload_n dX2_isDigitNext_30 0 rfl ?_
        refine gf_rd_text hR dX2_isDigitNext_31 flX2_12 ?_
        refine V_aload_n dX2_isDigitNext_34 0 rfl ?_
        refine gf_rd_position hR dX2_isDigitNext_35 flX2_28 ?_
        refine V_cVg (As := [.int (nI p)]) (rest := []) (Q := fun h1 => h1 = h) dX2_isDigitNext_38 cuX2_83 (c_charAt hxs hg hS hT.1 hp (hT.ch hp).1 (hT.ch hp).2) hS.1 rfl ⟨Nat.le_of_ble_eq_true rfl, Nat.le_of_ble_eq_true rfl, Nat.le_of_ble_eq_true rfl, Nat.le_of_ble_eq_true rfl⟩ (Nat.le_of_ble_eq_true rfl) rfl (fun h1 e1 => ?_)
        rw [e1]
        refine V_bipush (v := 57) dX2_isDigitNext_41 (by decide) ?_
        refine V_icmp_gt (tgt := 50) dX2_isDigitNext_43 (by decide) (fun c9 => absurd c9 (nI_nlt (a := 57) h3 (by decide))) (fun _ => ?_)
        refine V_iconst (v := 1) dX2_isDigitNext_46 (by decide) ?_
        refine V_goto (tgt := 51) dX2_isDigitNext_47 (by decide) ?_
        exact V_zret dX2_isDigitNext_51 rfl bN1 ⟨Nat.le_of_ble_eq_true rfl, Nat.le_of_ble_eq_true rfl⟩ ⟨by rw [hd]; rfl, rfl⟩
      · have hd : dgB t p = false := by simp [dgB, h3]
        refine V_aload_n dX2_isDigitNext_0 0 rfl ?_
        refine gf_rd_position hR dX2_isDigitNext_1 flX2_28 ?_
        refine V_aload_n dX2_isDigitNext_4 0 rfl ?_
        refine gf_rd_text hR dX2_isDigitNext_5 flX2_12 ?_
        refine V_cVg (As := []) (rest := [.int (nI p)]) (Q := fun h1 => h1 = h) dX2_isDigitNext_8 cuX2_36 (c_J4_length_8abf5 hxs hg hS.1) hS.1 rfl ⟨Nat.le_of_ble_eq_true rfl, Nat.le_of_ble_eq_true rfl, Nat.le_of_ble_eq_true rfl, Nat.le_of_ble_eq_true rfl⟩ (Nat.le_of_ble_eq_true rfl) rfl (fun h1 e1 => ?_)
        rw [e1]
        refine V_icmp_ge (tgt := 50) dX2_isDigitNext_11 (by decide) (fun c9 => absurd c9 (nI_ge hp (by omega))) (fun _ => ?_)
        refine V_aload_n dX2_isDigitNext_14 0 rfl ?_
        refine gf_rd_text hR dX2_isDigitNext_15 flX2_12 ?_
        refine V_aload_n dX2_isDigitNext_18 0 rfl ?_
        refine gf_rd_position hR dX2_isDigitNext_19 flX2_28 ?_
        refine V_cVg (As := [.int (nI p)]) (rest := []) (Q := fun h1 => h1 = h) dX2_isDigitNext_22 cuX2_83 (c_charAt hxs hg hS hT.1 hp (hT.ch hp).1 (hT.ch hp).2) hS.1 rfl ⟨Nat.le_of_ble_eq_true rfl, Nat.le_of_ble_eq_true rfl, Nat.le_of_ble_eq_true rfl, Nat.le_of_ble_eq_true rfl⟩ (Nat.le_of_ble_eq_true rfl) rfl (fun h1 e1 => ?_)
        rw [e1]
        refine V_bipush (v := 48) dX2_isDigitNext_25 (by decide) ?_
        refine V_icmp_lt (tgt := 50) dX2_isDigitNext_27 (by decide) (fun c9 => absurd c9 (nI_nlt (b := 48) h2 (by have := (hT.ch hp).1; omega))) (fun _ => ?_)
        refine V_aload_n dX2_isDigitNext_30 0 rfl ?_
        refine gf_rd_text hR dX2_isDigitNext_31 flX2_12 ?_
        refine V_aload_n dX2_isDigitNext_34 0 rfl ?_
        refine gf_rd_position hR dX2_isDigitNext_35 flX2_28 ?_
        refine V_cVg (As := [.int (nI p)]) (rest := []) (Q := fun h1 => h1 = h) dX2_isDigitNext_38 cuX2_83 (c_charAt hxs hg hS hT.1 hp (hT.ch hp).1 (hT.ch hp).2) hS.1 rfl ⟨Nat.le_of_ble_eq_true rfl, Nat.le_of_ble_eq_true rfl, Nat.le_of_ble_eq_true rfl, Nat.le_of_ble_eq_true rfl⟩ (Nat.le_of_ble_eq_true rfl) rfl (fun h1 e1 => ?_)
        rw [e1]
        refine V_bipush (v := 57) dX2_isDigitNext_41 (by decide) ?_
        refine V_icmp_gt (tgt := 50) dX2_isDigitNext_43 (by decide) (fun _ => ?_) (fun c9 => absurd (nI_lt (a := 57) (Nat.lt_of_not_le h3) (by have := (hT.ch hp).1; omega)) c9)
        refine V_iconst (v := 0) dX2_isDigitNext_50 (by decide) ?_
        exact V_zret dX2_isDigitNext_51 rfl bN0 ⟨Nat.le_of_ble_eq_true rfl, Nat.le_of_ble_eq_true rfl⟩ ⟨by rw [hd]; rfl, rfl⟩
    · have hd : dgB t p = false := by simp [dgB, h2]
      refine V_aload_n dX2_isDigitNext_0 0 rfl ?_
      refine gf_rd_position hR dX2_isDigitNext_1 flX2_28 ?_
      refine V_aload_n dX2_isDigitNext_4 0 rfl ?_
      refine gf_rd_text hR dX2_isDigitNext_5 flX2_12 ?_
      refine V_cVg (As := []) (rest := [.int (nI p)]) (Q := fun h1 => h1 = h) dX2_isDigitNext_8 cuX2_36 (c_J4_length_8abf5 hxs hg hS.1) hS.1 rfl ⟨Nat.le_of_ble_eq_true rfl, Nat.le_of_ble_eq_true rfl, Nat.le_of_ble_eq_true rfl, Nat.le_of_ble_eq_true rfl⟩ (Nat.le_of_ble_eq_true rfl) rfl (fun h1 e1 => ?_)
      rw [e1]
      refine V_icmp_ge (tgt := 50) dX2_isDigitNext_11 (by decide) (fun c9 => absurd c9 (nI_ge hp (by omega))) (fun _ => ?_)
      refine V_aload_n dX2_isDigitNext_14 0 rfl ?_
      refine gf_rd_text hR dX2_isDigitNext_15 flX2_12 ?_
      refine V_aload_n dX2_isDigitNext_18 0 rfl ?_
      refine gf_rd_position hR dX2_isDigitNext_19 flX2_28 ?_
      refine V_cVg (As := [.int (nI p)]) (rest := []) (Q := fun h1 => h1 = h) dX2_isDigitNext_22 cuX2_83 (c_charAt hxs hg hS hT.1 hp (hT.ch hp).1 (hT.ch hp).2) hS.1 rfl ⟨Nat.le_of_ble_eq_true rfl, Nat.le_of_ble_eq_true rfl, Nat.le_of_ble_eq_true rfl, Nat.le_of_ble_eq_true rfl⟩ (Nat.le_of_ble_eq_true rfl) rfl (fun h1 e1 => ?_)
      rw [e1]
      refine V_bipush (v := 48) dX2_isDigitNext_25 (by decide) ?_
      refine V_icmp_lt (tgt := 50) dX2_isDigitNext_27 (by decide) (fun _ => ?_) (fun c9 => absurd (nI_lt (b := 48) (Nat.lt_of_not_le h2) (by decide)) c9)
      refine V_iconst (v := 0) dX2_isDigitNext_50 (by decide) ?_
      exact V_zret dX2_isDigitNext_51 rfl bN0 ⟨Nat.le_of_ble_eq_true rfl, Nat.le_of_ble_eq_true rfl⟩ ⟨by rw [hd]; rfl, rfl⟩
  · have hd : dgB t p = false := by simp [dgB, hp]
    refine V_aload_n dX2_isDigitNext_0 0 rfl ?_
    refine gf_rd_position hR dX2_isDigitNext_1 flX2_28 ?_
    refine V_aload_n dX2_isDigitNext_4 0 rfl ?_
    refine gf_rd_text hR dX2_isDigitNext_5 flX2_12 ?_
    refine V_cVg (As := []) (rest := [.int (nI p)]) (Q := fun h1 => h1 = h) dX2_isDigitNext_8 cuX2_36 (c_J4_length_8abf5 hxs hg hS.1) hS.1 rfl ⟨Nat.le_of_ble_eq_true rfl, Nat.le_of_ble_eq_true rfl, Nat.le_of_ble_eq_true rfl, Nat.le_of_ble_eq_true rfl⟩ (Nat.le_of_ble_eq_true rfl) rfl (fun h1 e1 => ?_)
    rw [e1]
    refine V_icmp_ge (tgt := 50) dX2_isDigitNext_11 (by decide) (fun _ => ?_) (fun c9 => absurd (nI_le (Nat.le_of_not_lt hp) (by omega)) c9)
    refine V_iconst (v := 0) dX2_isDigitNext_50 (by decide) ?_
    exact V_zret dX2_isDigitNext_51 rfl bN0 ⟨Nat.le_of_ble_eq_true rfl, Nat.le_of_ble_eq_true rfl⟩ ⟨by rw [hd]; rfl, rfl⟩
def sgB (t : List Int32) (p c : Nat) : Bool := decide (p < t.length) && decide (chA t p = c)
set_option maxRecDepth 20000 in
set_option maxHeartbeats 1000000 in
theorem c_X2_readSign {X : KX} (hxs : X.1.stackTraces = false) (hg : GX X) {h : AH} {x p : Nat} {cm : Nat → Nat × List Int32 × Int32} {cnt : Int32} {t : List Int32} (hR : RdRaw X h x cm cnt (nI p) t) (hp9 : p < 2 ^ 30) {c : Nat} (hc9 : c < 128) : Ct X mX2_readSign [.ref (x + 147), .int (nI c)] h (zM (some (.int (if sgB t p c then 1 else 0))) (fun h' => RdRaw X h' x cm cnt (nI (if sgB t p c then p + 1 else p)) t ∧ Outs h h' (x + 147) 36)) := by
  obtain ⟨v, L9, ml, hS, hv9, hT⟩ := id hR.2.1
  have hl9 := hS.2.2.2.2.2.1
  have hl8 := hT.1
  refine Ct.of (by decide) rfl (Nat.le_of_ble_eq_true rfl) rfl hxs ?_
  by_cases hp : p < t.length
  · by_cases h2 : chA t p = c
    · have hd : sgB t p c = true := by simp [sgB, hp, h2]
      refine V_aload_n dX2_readSign_0 0 rfl ?_
      refine gf_rd_position hR dX2_readSign_1 flX2_28 ?_
      refine V_aload_n dX2_readSign_4 0 rfl ?_
      refine gf_rd_text hR dX2_readSign_5 flX2_12 ?_
      refine V_cVg (As := []) (rest := [.int (nI p)]) (Q := fun h1 => h1 = h) dX2_readSign_8 cuX2_36 (c_J4_length_8abf5 hxs hg hS.1) hS.1 rfl ⟨Nat.le_of_ble_eq_true rfl, Nat.le_of_ble_eq_true rfl, Nat.le_of_ble_eq_true rfl, Nat.le_of_ble_eq_true rfl⟩ (Nat.le_of_ble_eq_true rfl) rfl (fun h1 e1 => ?_)
      rw [e1]
      refine V_icmp_ge (tgt := 29) dX2_readSign_11 (by decide) (fun c9 => absurd c9 (nI_ge hp (by omega))) (fun _ => ?_)
      refine V_aload_n dX2_readSign_14 0 rfl ?_
      refine gf_rd_text hR dX2_readSign_15 flX2_12 ?_
      refine V_aload_n dX2_readSign_18 0 rfl ?_
      refine gf_rd_position hR dX2_readSign_19 flX2_28 ?_
      refine V_cVg (As := [.int (nI p)]) (rest := []) (Q := fun h1 => h1 = h) dX2_readSign_22 cuX2_83 (c_charAt hxs hg hS hT.1 hp (hT.ch hp).1 (hT.ch hp).2) hS.1 rfl ⟨Nat.le_of_ble_eq_true rfl, Nat.le_of_ble_eq_true rfl, Nat.le_of_ble_eq_true rfl, Nat.le_of_ble_eq_true rfl⟩ (Nat.le_of_ble_eq_true rfl) rfl (fun h1 e1 => ?_)
      rw [e1]
      refine V_iload_n dX2_readSign_25 1 rfl ?_
      refine V_icmp_eq (tgt := 31) dX2_readSign_26 (by decide) (fun _ => ?_) (fun c9 => absurd (congrArg nI h2) c9)
      refine V_aload_n dX2_readSign_31 0 rfl ?_
      refine V_dup dX2_readSign_32 rfl ?_
      refine gf_rd_position hR dX2_readSign_33 flX2_28 ?_
      refine V_iconst (v := 1) dX2_readSign_36 (by decide) ?_
      refine V_iadd dX2_readSign_37 ?_
      rw [show nI p + 1 = nI (p + 1) from nI_1 p]
      refine pf_rd_position hR dX2_readSign_38 flX2_28 (fun h1 hR1 hO1 => ?_)
      refine V_iconst (v := 1) dX2_readSign_41 (by decide) ?_
      exact V_zret dX2_readSign_42 rfl bN1 ⟨Nat.le_of_ble_eq_true rfl, Nat.le_of_ble_eq_true rfl⟩ ⟨by rw [hd]; rfl, by rw [hd]; exact hR1, hO1⟩
    · have hd : sgB t p c = false := by simp [sgB, h2]
      refine V_aload_n dX2_readSign_0 0 rfl ?_
      refine gf_rd_position hR dX2_readSign_1 flX2_28 ?_
      refine V_aload_n dX2_readSign_4 0 rfl ?_
      refine gf_rd_text hR dX2_readSign_5 flX2_12 ?_
      refine V_cVg (As := []) (rest := [.int (nI p)]) (Q := fun h1 => h1 = h) dX2_readSign_8 cuX2_36 (c_J4_length_8abf5 hxs hg hS.1) hS.1 rfl ⟨Nat.le_of_ble_eq_true rfl, Nat.le_of_ble_eq_true rfl, Nat.le_of_ble_eq_true rfl, Nat.le_of_ble_eq_true rfl⟩ (Nat.le_of_ble_eq_true rfl) rfl (fun h1 e1 => ?_)
      rw [e1]
      refine V_icmp_ge (tgt := 29) dX2_readSign_11 (by decide) (fun c9 => absurd c9 (nI_ge hp (by omega))) (fun _ => ?_)
      refine V_aload_n dX2_readSign_14 0 rfl ?_
      refine gf_rd_text hR dX2_readSign_15 flX2_12 ?_
      refine V_aload_n dX2_readSign_18 0 rfl ?_
      refine gf_rd_position hR dX2_readSign_19 flX2_28 ?_
      refine V_cVg (As := [.int (nI p)]) (rest := []) (Q := fun h1 => h1 = h) dX2_readSign_22 cuX2_83 (c_charAt hxs hg hS hT.1 hp (hT.ch hp).1 (hT.ch hp).2) hS.1 rfl ⟨Nat.le_of_ble_eq_true rfl, Nat.le_of_ble_eq_true rfl, Nat.le_of_ble_eq_true rfl, Nat.le_of_ble_eq_true rfl⟩ (Nat.le_of_ble_eq_true rfl) rfl (fun h1 e1 => ?_)
      rw [e1]
      refine V_iload_n dX2_readSign_25 1 rfl ?_
      refine V_icmp_eq (tgt := 31) dX2_readSign_26 (by decide) (fun c9 => absurd c9 (fun e9 => h2 ((nI_eq (by have := (hT.ch hp).1; omega) (by omega)).mp e9))) (fun _ => ?_)
      refine V_iconst (v := 0) dX2_readSign_29 (by decide) ?_
      exact V_zret dX2_readSign_30 rfl bN0 ⟨Nat.le_of_ble_eq_true rfl, Nat.le_of_ble_eq_true rfl⟩ ⟨by rw [hd]; rfl, by rw [hd]; exact hR, Outs.rf⟩
  · have hd : sgB t p c = false := by simp [sgB, hp]
    refine V_aload_n dX2_readSign_0 0 rfl ?_
    refine gf_rd_position hR dX2_readSign_1 flX2_28 ?_
    refine V_aload_n dX2_readSign_4 0 rfl ?_
    refine gf_rd_text hR dX2_readSign_5 flX2_12 ?_
    refine V_cVg (As := []) (rest := [.int (nI p)]) (Q := fun h1 => h1 = h) dX2_readSign_8 cuX2_36 (c_J4_length_8abf5 hxs hg hS.1) hS.1 rfl ⟨Nat.le_of_ble_eq_true rfl, Nat.le_of_ble_eq_true rfl, Nat.le_of_ble_eq_true rfl, Nat.le_of_ble_eq_true rfl⟩ (Nat.le_of_ble_eq_true rfl) rfl (fun h1 e1 => ?_)
    rw [e1]
    refine V_icmp_ge (tgt := 29) dX2_readSign_11 (by decide) (fun _ => ?_) (fun c9 => absurd (nI_le (Nat.le_of_not_lt hp) (by omega)) c9)
    refine V_iconst (v := 0) dX2_readSign_29 (by decide) ?_
    exact V_zret dX2_readSign_30 rfl bN0 ⟨Nat.le_of_ble_eq_true rfl, Nat.le_of_ble_eq_true rfl⟩ ⟨by rw [hd]; rfl, by rw [hd]; exact hR, Outs.rf⟩
/-- a command that was read so far: its form, its numbers -/
def CmdIs (C : Nat × List Int32 × Int32) (f : Nat) (nums : List Nat) : Prop := C.1 = f ∧ C.2.2 = nI nums.length ∧ nums.length ≤ 3 ∧ ∀ i, i < nums.length → C.2.1.getD i 0 = nI (nums.getD i 0)
def updC (cm : Nat → Nat × List Int32 × Int32) (k : Nat) (C : Nat × List Int32 × Int32) : Nat → Nat × List Int32 × Int32 := fun j => if j = k then C else cm j
theorem RdRaw.cmd {X : KX} {h h' : AH} {x k : Nat} {cm : Nat → Nat × List Int32 × Int32} {cnt pos : Int32} {t : List Int32} {C : Nat × List Int32 × Int32} (p : RdRaw X h x cm cnt pos t) (hk : k < 16) (hC : CmdAt X h' (x + 151 + 2 * k) C) (o : Outs h h' (x + 151 + 2 * k) 2) : RdRaw X h' x (updC cm k C) cnt pos t := by
  refine ⟨(o.2 _ (by omega)).trans p.1, p.2.1.keep (by rw [o.1]; exact Nat.le_refl _) (fun q _ hq => o.2 q (by omega)), (o.2 _ (by omega)).trans p.2.2.1, fun j hj => ?_⟩
  unfold updC
  by_cases e : j = k
  · rw [if_pos e, e]; exact hC
  · rw [if_neg e]; exact (p.2.2.2 j hj).out o (by omega)
section VCM
variable {X : KX} {M : MI} {F : FT} {k n pc : Nat} {lv lv' : List (Nat × Value)} {rest : List Value} {h : AH} {Z : ZT} {a : Nat} {C : Nat × List Int32 × Int32}
theorem gf_cm_numbers {idx : Nat} (p : CmdAt X h a C) (hdg : decode (mcc M) pc = .ok (.getfield idx, 3)) (hw : Cond.fieldLink (my M).cls idx "SilentOpera$Command" "numbers" "[I" ∈ GW) (kk : V X M F k n (pc + 3) lv (.ref (a + 1) :: rest) h) : V X M F k n pc lv (.ref a :: rest) h := V_get 0 hdg hw iGX1 rfl (by decide) rfl p.1 rfl kk
theorem gf_cm_form {idx : Nat} (p : CmdAt X h a C) (hdg : decode (mcc M) pc = .ok (.getfield idx, 3)) (hw : Cond.fieldLink (my M).cls idx "SilentOpera$Command" "form" "LSilentOpera$Form;" ∈ GW) (kk : V X M F k n (pc + 3) lv (.ref (kad X (3000 + C.1)) :: rest) h) : V X M F k n pc lv (.ref a :: rest) h := V_get 1 hdg hw iGX1 rfl (by decide) rfl p.1 rfl kk
theorem gf_cm_numberCount {idx : Nat} (p : CmdAt X h a C) (hdg : decode (mcc M) pc = .ok (.getfield idx, 3)) (hw : Cond.fieldLink (my M).cls idx "SilentOpera$Command" "numberCount" "I" ∈ GW) (kk : V X M F k n (pc + 3) lv (.int C.2.2 :: rest) h) : V X M F k n pc lv (.ref a :: rest) h := V_get 2 hdg hw iGX1 rfl (by decide) rfl p.1 rfl kk
theorem pf_cm_form {idx f : Nat} (hf : f < 11) (p : CmdAt X h a C) (hdg : decode (mcc M) pc = .ok (.putfield idx, 3)) (hw : Cond.fieldLink (my M).cls idx "SilentOpera$Command" "form" "LSilentOpera$Form;" ∈ GW) (kk : ∀ h1, CmdAt X h1 a (f, C.2.1, C.2.2) → Outs h h1 a 2 → V X M F k n (pc + 3) lv rest h1) : V X M F k n pc lv (.ref (kad X (3000 + f)) :: .ref a :: rest) h := V_put 1 hdg hw iGX1 tyX1_ok nmX1 rfl (by decide) rfl rfl rfl p.1 rfl rfl (by simp) (kk _ ⟨hput_at, hf, (hput_ne (by omega)).trans p.2.2.1, p.2.2.2⟩ (Outs.put (by omega) (by omega)))
theorem pf_cm_numberCount {idx : Nat} {w : Int32} (p : CmdAt X h a C) (hdg : decode (mcc M) pc = .ok (.putfield idx, 3)) (hw : Cond.fieldLink (my M).cls idx "SilentOpera$Command" "numberCount" "I" ∈ GW) (kk : ∀ h1, CmdAt X h1 a (C.1, C.2.1, w) → Outs h h1 a 2 → V X M F k n (pc + 3) lv rest h1) : V X M F k n pc lv (.int w :: .ref a :: rest) h := V_put 2 hdg hw iGX1 tyX1_ok nmX1 rfl (by decide) rfl rfl rfl p.1 rfl rfl (by simp) (kk _ ⟨hput_at, p.2.1, (hput_ne (by omega)).trans p.2.2.1, p.2.2.2⟩ (Outs.put (by omega) (by omega)))
theorem st_cm {i y : Int32} (p : CmdAt X h a C) (hdg : decode (mcc M) pc = .ok (.iastore, 1)) (hin : vp_in i 3) (kk : ∀ h1, CmdAt X h1 a (C.1, wr C.2.1 i y, C.2.2) → Outs h h1 a 2 → V X M F k n (pc + 1) lv rest h1) : V X M F k n pc lv (.int y :: .int i :: .ref (a + 1) :: rest) h := V_iast hdg p.2.2.1 (by rw [p.2.2.2]; exact hin) (kk _ ⟨(hput_ne (by omega)).trans p.1, p.2.1, hput_at, by rw [wr_len]; exact p.2.2.2⟩ (Outs.put (by omega) (by omega)))
theorem ld_cm {i : Int32} (p : CmdAt X h a C) (hdg : decode (mcc M) pc = .ok (.iaload, 1)) (hin : vp_in i 3) (kk : V X M F k n (pc + 1) lv (.int (rd C.2.1 i) :: rest) h) : V X M F k n pc lv (.int i :: .ref (a + 1) :: rest) h := V_iald hdg p.2.2.1 (by rw [p.2.2.2]; exact hin) kk
end VCM
set_option maxRecDepth 20000 in
set_option maxHeartbeats 1000000 in
theorem c_X1_begin {X : KX} (hxs : X.1.stackTraces = false) {h : AH} {a f : Nat} {C : Nat × List Int32 × Int32} (hC : CmdAt X h a C) (hf : f < 11) : Ct X mX1_begin [.ref a, .ref (kad X (3000 + f))] h (zM none (fun h' => (∃ C', CmdAt X h' a C' ∧ CmdIs C' f []) ∧ Outs h h' a 2)) := by
  refine Ct.of (by decide) rfl (Nat.le_of_ble_eq_true rfl) rfl hxs ?_
  refine V_aload_n dX1_begin_0 0 rfl ?_
  refine V_aload_n dX1_begin_1 1 rfl ?_
  refine pf_cm_form hf hC dX1_begin_2 flX1_21 (fun h1 hC1 hO1 => ?_)
  refine V_aload_n dX1_begin_5 0 rfl ?_
  refine V_iconst (v := 0) dX1_begin_6 (by decide) ?_
  refine pf_cm_numberCount hC1 dX1_begin_7 flX1_24 (fun h2 hC2 hO2 => ?_)
  exact V_vret dX1_begin_10 rfl ⟨Nat.le_of_ble_eq_true rfl, Nat.le_of_ble_eq_true rfl⟩ ⟨rfl, ⟨_, hC2, rfl, rfl, by simp, fun i hi => absurd hi (by simp)⟩, hO1.tr hO2⟩
set_option maxRecDepth 20000 in
set_option maxHeartbeats 1000000 in
theorem c_X1_add {X : KX} (hxs : X.1.stackTraces = false) {h : AH} {a f y : Nat} {nums : List Nat} {C : Nat × List Int32 × Int32} (hC : CmdAt X h a C) (hI : CmdIs C f nums) : Ct X mX1_add [.ref a, .int (nI y)] h (zM none (fun h' => (∃ C', CmdAt X h' a C' ∧ CmdIs C' f (addN nums y)) ∧ Outs h h' a 2)) := by
  refine Ct.of (by decide) rfl (Nat.le_of_ble_eq_true rfl) rfl hxs ?_
  have h9 := hI.2.2.1
  by_cases h1 : nums.length < 3
  · refine V_aload_n dX1_add_0 0 rfl ?_
    refine gf_cm_numberCount hC dX1_add_1 flX1_24 ?_
    rw [hI.2.1]
    refine V_iconst (v := 3) dX1_add_4 (by decide) ?_
    refine V_icmp_ge (tgt := 28) dX1_add_5 (by decide) (fun c9 => absurd c9 (nI_ge (b := 3) h1 (by omega))) (fun _ => ?_)
    refine V_aload_n dX1_add_8 0 rfl ?_
    refine gf_cm_numbers hC dX1_add_9 flX1_9 ?_
    refine V_aload_n dX1_add_12 0 rfl ?_
    refine gf_cm_numberCount hC dX1_add_13 flX1_24 ?_
    rw [hI.2.1]
    refine V_iload_n dX1_add_16 1 rfl ?_
    refine st_cm hC dX1_add_17 (vp_in_nI h1 (by omega)) (fun h2 hC2 hO2 => ?_)
    refine V_aload_n dX1_add_18 0 rfl ?_
    refine V_dup dX1_add_19 rfl ?_
    refine gf_cm_numberCount hC2 dX1_add_20 flX1_24 ?_
    rw [show (C.1, wr C.2.1 (nI nums.length) (nI y), C.2.2).2.2 = nI nums.length from hI.2.1]
    refine V_iconst (v := 1) dX1_add_23 (by decide) ?_
    refine V_iadd dX1_add_24 ?_
    rw [show nI nums.length + 1 = nI (nums.length + 1) from nI_1 _]
    refine pf_cm_numberCount hC2 dX1_add_25 flX1_24 (fun h3 hC3 hO3 => ?_)
    refine V_vret dX1_add_28 rfl ⟨Nat.le_of_ble_eq_true rfl, Nat.le_of_ble_eq_true rfl⟩ ⟨rfl, ⟨_, hC3, ?_⟩, hO2.tr hO3⟩
    unfold addN
    rw [if_pos h1]
    refine ⟨hI.1, by simp, by simp; omega, fun i hi => ?_⟩
    have hi2 : i < nums.length + 1 := by simpa using hi
    by_cases e : i = nums.length
    · subst e
      have hc : (nI nums.length).toNatClampNeg = nums.length := nI_clamp (by omega)
      have hl : nums.length < C.2.1.length := by rw [hC.2.2.2]; exact h1
      simp [wr, List.getD_eq_getElem?_getD, hc, hl]
    · have hne : (nI nums.length).toNatClampNeg ≠ i := by rw [nI_clamp (by omega)]; omega
      have e1 : (wr C.2.1 (nI nums.length) (nI y)).getD i 0 = C.2.1.getD i 0 := by simp [wr, List.getD_eq_getElem?_getD, List.getElem?_set_ne hne]
      have e2 : (nums ++ [y]).getD i 0 = nums.getD i 0 := by simp [List.getD_eq_getElem?_getD, List.getElem?_append_left (show i < nums.length by omega)]
      show (wr C.2.1 (nI nums.length) (nI y)).getD i 0 = nI ((nums ++ [y]).getD i 0)
      rw [e1, e2]
      exact hI.2.2.2 i (by omega)
  · refine V_aload_n dX1_add_0 0 rfl ?_
    refine gf_cm_numberCount hC dX1_add_1 flX1_24 ?_
    rw [hI.2.1]
    refine V_iconst (v := 3) dX1_add_4 (by decide) ?_
    refine V_icmp_ge (tgt := 28) dX1_add_5 (by decide) (fun _ => ?_) (fun c9 => absurd (nI_le (a := 3) (Nat.le_of_not_lt h1) (by omega)) c9)
    exact V_vret dX1_add_28 rfl ⟨Nat.le_of_ble_eq_true rfl, Nat.le_of_ble_eq_true rfl⟩ ⟨rfl, ⟨C, hC, by unfold addN; rw [if_neg h1]; exact hI⟩, Outs.rf⟩
