/-! ===== rows of lists; what the tree's functions keep ===== -/
theorem hasInt {x : Int32} {b : Nat} (h0 : ¬ x < 0) (h1 : ¬ nI b ≤ x) (hb : b < 2 ^ 31) : vp_in x b := by
  obtain ⟨j, hj, rfl⟩ := nI_of h0
  exact vp_in_nI (by rcases Nat.lt_or_ge j b with g | g; exact g; exact absurd (nI_le g hj) h1) hb
theorem wr_len (L : List Int32) (i x : Int32) : (wr L i x).length = L.length := by unfold wr; exact List.length_set
theorem rd_wr_same {L : List Int32} {i x : Int32} (h : i.toNatClampNeg < L.length) : rd (wr L i x) i = x := by
  simp [rd, wr, List.getD_eq_getElem?_getD, h]
theorem rd_wr_ne {L : List Int32} {i j x : Int32} (h : i.toNatClampNeg ≠ j.toNatClampNeg) : rd (wr L i x) j = rd L j := by
  simp [rd, wr, List.getD_eq_getElem?_getD, List.getElem?_set_ne h]
theorem rd_wr_cases {L : List Int32} {P : Int32 → Prop} {i j x : Int32} (h1 : P x) (h2 : P (rd L j)) (h0 : P 0) : P (rd (wr L i x) j) := by
  by_cases e : i.toNatClampNeg = j.toNatClampNeg
  · by_cases g : i.toNatClampNeg < L.length
    · have : rd (wr L i x) j = rd (wr L i x) i := by unfold rd; rw [e]
      rw [this, rd_wr_same g]; exact h1
    · have : rd (wr L i x) j = 0 := by
        unfold rd wr
        rw [List.getD_eq_getElem?_getD, List.getElem?_eq_none (by rw [List.length_set]; omega)]
        rfl
      rw [this]; exact h0
  · rw [rd_wr_ne e]; exact h2
theorem LT16.wr {L : List Int32} {i x : Int32} (h : LT16 L) (hx : x < 16) : LT16 (wr L i x) := fun j hj => rd_wr_cases (P := fun z => z < 16) hx (h j hj) (by decide)
theorem joined_lt {higher : List Int32} {first second : Int32} (h : LT16 higher) (h1 : first < 16) (h2 : second < 16) : (T_X3_joined higher first second).1 < 16 ∧ LT16 (T_X3_joined higher first second).2 := by
  unfold T_X3_joined
  split
  · have : ∀ (f i : Nat) (x3 : Int32), (T_X3_joined_L11 higher first second f i x3).1 < 16 ∧ LT16 (T_X3_joined_L11 higher first second f i x3).2 := by
      intro f
      induction f with
      | zero => intro i x3; rw [T_X3_joined_L11]; exact ⟨h1, h.wr h2⟩
      | succ f ih =>
        intro i x3
        rw [T_X3_joined_L11]
        split
        · exact ⟨h1, h.wr h2⟩
        · exact ih _ _
    exact this _ _ _
  · exact ⟨h2, h⟩
theorem unlink_lt {lower higher : List Int32} {root slot : Int32} (hl : LT16 lower) (hr : LT16 higher) (hs : vp_in slot 16) : LT16 (T_X3_unlink lower higher root slot).1 ∧ LT16 (T_X3_unlink lower higher root slot).2.1 := by
  have hj := joined_lt (first := rd lower slot) (second := rd higher slot) hr (hl _ hs) (hr _ hs)
  have : ∀ (f i : Nat) (l0 h0 : List Int32) (r0 : Int32), LT16 l0 → LT16 h0 → LT16 (T_X3_unlink_L32 lower higher slot f i l0 h0 r0).1 ∧ LT16 (T_X3_unlink_L32 lower higher slot f i l0 h0 r0).2.1 := by
    intro f
    induction f with
    | zero => intro i l0 h0 r0 a b; rw [T_X3_unlink_L32]; exact ⟨a.wr (by decide), b.wr (by decide)⟩
    | succ f ih =>
      intro i l0 h0 r0 a b
      rw [T_X3_unlink_L32]
      have hj1 := hj.1
      split <;> split <;> refine ih _ _ _ _ ?_ ?_ <;> first | exact a | exact b | (refine LT16.wr ?_ hj1; first | exact a | exact b)
  unfold T_X3_unlink
  split <;> exact this _ _ _ _ _ hl hj.2
theorem slot_lt {x : Int32} (h : vp_in x 16) : x < 16 := by
  obtain ⟨j, hj, rfl⟩ := vp_in_of h (by decide)
  exact nI_lt (b := 16) hj (by decide)
theorem drop_lt {kinds lower higher : List Int32} {root count slot : Int32} (hl : LT16 lower) (hr : LT16 higher) : LT16 (T_X3_drop kinds lower higher root count slot).2.1 ∧ LT16 (T_X3_drop kinds lower higher root count slot).2.2.1 := by
  unfold T_X3_drop
  split
  · exact ⟨hl, hr⟩
  · rename_i hs
    split
    · exact ⟨hl, hr⟩
    · exact unlink_lt hl hr (isSlot_in hs)
theorem link_lt {ids beats lower higher : List Int32} {root slot : Int32} (hl : LT16 lower) (hr : LT16 higher) (hs : slot < 16) : LT16 (T_X3_link ids beats lower higher root slot).1 ∧ LT16 (T_X3_link ids beats lower higher root slot).2.1 := by
  have : ∀ (f i : Nat) (x2 : Int32) (l0 h0 : List Int32) (r0 : Int32), LT16 l0 → LT16 h0 → LT16 (T_X3_link_L23 ids beats slot f i x2 l0 h0 r0).1 ∧ LT16 (T_X3_link_L23 ids beats slot f i x2 l0 h0 r0).2.1 := by
    intro f
    induction f with
    | zero => intro i x2 l0 h0 r0 a b; rw [T_X3_link_L23]; exact ⟨a, b⟩
    | succ f ih =>
      intro i x2 l0 h0 r0 a b
      rw [T_X3_link_L23]
      repeat' split
      · exact ⟨a, b⟩
      all_goals (refine ih _ _ _ _ _ ?_ ?_ <;> first | exact a | exact b | (refine LT16.wr ?_ hs; first | exact a | exact b))
  unfold T_X3_link
  split
  · exact ⟨hl, hr⟩
  · exact this _ _ _ _ _ _ hl hr
theorem list_ok {ids beats lower higher od : List Int32} {root lastBeat : Int32} (ho : od.length = 16) : SmallN (T_X3_listThrough ids beats lower higher od root lastBeat).1 16 ∧ (T_X3_listThrough ids beats lower higher od root lastBeat).2.length = 16 ∧ ∀ j, j < (T_X3_listThrough ids beats lower higher od root lastBeat).1.toNatClampNeg → vp_in (rd (T_X3_listThrough ids beats lower higher od root lastBeat).2 (nI j)) 16 := by
  have : ∀ (f i : Nat) (x3 : Int32) (o0 : List Int32), i + f = 16 → o0.length = 16 → (∀ j, j < i → vp_in (rd o0 (nI j)) 16) → SmallN (T_X3_listThrough_L9 ids beats lower higher root lastBeat f i x3 o0).1 16 ∧ (T_X3_listThrough_L9 ids beats lower higher root lastBeat f i x3 o0).2.length = 16 ∧ ∀ j, j < (T_X3_listThrough_L9 ids beats lower higher root lastBeat f i x3 o0).1.toNatClampNeg → vp_in (rd (T_X3_listThrough_L9 ids beats lower higher root lastBeat f i x3 o0).2 (nI j)) 16 := by
    intro f
    induction f with
    | zero => intro i x3 o0 hi hl h; obtain rfl : i = 16 := by omega
              rw [T_X3_listThrough_L9]; exact ⟨sm_nI (Nat.le_refl 16) (by decide), hl, fun j hj => h j (by rw [nI_clamp (by decide)] at hj; exact hj)⟩
    | succ f ih =>
      intro i x3 o0 hi hl h
      rw [T_X3_listThrough_L9]
      split
      · exact ⟨sm_nI (by omega) (by decide), hl, fun j hj => h j (by rw [nI_clamp (by omega)] at hj; exact hj)⟩
      · rename_i hs
        split
        · exact ⟨sm_nI (by omega) (by decide), hl, fun j hj => h j (by rw [nI_clamp (by omega)] at hj; exact hj)⟩
        · refine ih _ _ _ (by omega) (by rw [wr_len]; exact hl) (fun j hj => ?_)
          by_cases e : j = i
          · subst e
            rw [rd_wr_same (by rw [nI_clamp (by omega), hl]; omega)]
            exact isSlot_in hs
          · rw [rd_wr_ne (by rw [nI_clamp (by omega), nI_clamp (by omega)]; omega)]
            exact h j (by omega)
  exact this 16 0 _ od (by omega) ho (fun j hj => absurd hj (by omega))
section VC2
variable {X : KX} {M : MI} {F : FT} {k n pc : Nat} {lv lv' : List (Nat × Value)} {rest : List Value} {h : AH} {Z : ZT}
theorem V_cSmv {M' : MI} {As : List Value} {idx : Nat} {Q : AH → Prop} (hdg : decode (mcc M) pc = .ok (.invokestatic idx, 3)) (hcv : CallS (my M).cls idx M' As.length) (hC : Ct X M' As h (zM none Q)) (hRm : RoomOK M M' k n) (hst : (rest.map fun v => v.category).sum ≤ 8) {st : List Value} (hstk : st = As.reverse ++ rest) (kk : ∀ h', Q h' → V X M F (k + (mR M').cells) (n + (mR M').slots) (pc + 3) lv rest h') : V X M F k n pc lv st h :=
  V_callS hdg hcv hC hRm hst hstk (fun v h' hz => by obtain ⟨e, q⟩ := hz; cases e; exact kk h' q) (fun E h' hz => by cases hz.1)
end VC2
