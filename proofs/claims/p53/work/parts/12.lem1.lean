/-! ===== rows of lists; what the tree's functions keep ===== -/
theorem hasInt {x : Int32} {b : Nat} (h0 : ¬ x < 0) (h1 : ¬ nI b ≤ x) (hb : b < 2 ^ 31) : vp_in x b := by
  obtain ⟨j, hj, rfl⟩ := nI_of h0
  exact vp_in_nI (by rcases Nat.lt_or_ge j b with g | g; exact g; exact absurd (nI_le g hj) h1) hb
theorem wr_len (L : List Int32) (i x : Int32) : (wr L i x).length = L.length := by unfold wr; exact List.length_set
theorem rd_wr_same {L : List Int32} {i x : Int32} (h : i.toNatClampNeg < L.length) : rd (wr L i x) i = x := by
  simp [rd, wr, List.getD_eq_getElem?_getD, h]
theorem rd_wr_ne {L : List Int32} {i j x : Int32} (h : i.toNatClampNeg ≠ j.toNatClampNeg) : rd (wr L i x) j = rd L j := by
  simp [rd, wr, List.getD_eq_getElem?_getD, List.getElem?_set_ne h]
theorem rd_wr_cases {L : List Int32} {P : Int32 → Prop} {i j x : Int32} (h1 : P x) (h2 : P (rd L j)) (h0 : P 0) : P (rd (wr L i x) j) := by
  by_cases e : i.toNatClampNeg = j.toNatClampNeg
  · by_cases g : i.toNatClampNeg < L.length
    · have : rd (wr L i x) j = rd (wr L i x) i := by unfold rd; rw [e]
      rw [this, rd_wr_same g]; exact h1
    · have : rd (wr L i x) j = 0 := by
        unfold rd wr
        rw [List.getD_eq_getElem?_getD, List.getElem?_eq_none (by rw [List.length_set]; omega)]
        rfl
      rw [this]; exact h0
  · rw [rd_wr_ne e]; exact h2
theorem list_ok {ids beats lower higher od : List Int32} {root lastBeat : Int32} (ho : od.length = 16) : SmallN (T_X3_listThrough ids beats lower higher od root lastBeat).1 16 ∧ (T_X3_listThrough ids beats lower higher od root lastBeat).2.length = 16 ∧ ∀ j, j < (T_X3_listThrough ids beats lower higher od root lastBeat).1.toNatClampNeg → vp_in (rd (T_X3_listThrough ids beats lower higher od root lastBeat).2 (nI j)) 16 := by
  have : ∀ (f i : Nat) (x3 : Int32) (o0 : List Int32), i + f = 16 → o0.length = 16 → (∀ j, j < i → vp_in (rd o0 (nI j)) 16) → SmallN (T_X3_listThrough_L9 ids beats lower higher root lastBeat f i x3 o0).1 16 ∧ (T_X3_listThrough_L9 ids beats lower higher root lastBeat f i x3 o0).2.length = 16 ∧ ∀ j, j < (T_X3_listThrough_L9 ids beats lower higher root lastBeat f i x3 o0).1.toNatClampNeg → vp_in (rd (T_X3_listThrough_L9 ids beats lower higher root lastBeat f i x3 o0).2 (nI j)) 16 := by
    intro f
    induction f with
    | zero => intro i x3 o0 hi hl h; obtain rfl : i = 16 := by omega
              rw [T_X3_listThrough_L9]; exact ⟨sm_nI (Nat.le_refl 16) (by decide), hl, fun j hj => h j (by rw [nI_clamp (by decide)] at hj; exact hj)⟩
    | succ f ih =>
      intro i x3 o0 hi hl h
      rw [T_X3_listThrough_L9]
      split
      · exact ⟨sm_nI (by omega) (by decide), hl, fun j hj => h j (by rw [nI_clamp (by omega)] at hj; exact hj)⟩
      · rename_i hs
        split
        · exact ⟨sm_nI (by omega) (by decide), hl, fun j hj => h j (by rw [nI_clamp (by omega)] at hj; exact hj)⟩
        · refine ih _ _ _ (by omega) (by rw [wr_len]; exact hl) (fun j hj => ?_)
          by_cases e : j = i
          · subst e
            rw [rd_wr_same (by rw [nI_clamp (by omega), hl]; omega)]
            exact isSlot_in hs
          · rw [rd_wr_ne (by rw [nI_clamp (by omega), nI_clamp (by omega)]; omega)]
            exact h j (by omega)
  exact this 16 0 _ od (by omega) ho (fun j hj => absurd hj (by omega))
section VC2
variable {X : KX} {M : MI} {F : FT} {k n pc : Nat} {lv lv' : List (Nat × Value)} {rest : List Value} {h : AH} {Z : ZT}
theorem V_cSmv {M' : MI} {As : List Value} {idx : Nat} {Q : AH → Prop} (hdg : decode (mcc M) pc = .ok (.invokestatic idx, 3)) (hcv : CallS (my M).cls idx M' As.length) (hC : Ct X M' As h (zM none Q)) (hRm : RoomOK M M' k n) (hst : (rest.map fun v => v.category).sum ≤ 8) {st : List Value} (hstk : st = As.reverse ++ rest) (kk : ∀ h', Q h' → V X M F (k + (mR M').cells) (n + (mR M').slots) (pc + 3) lv rest h') : V X M F k n pc lv st h :=
  V_callS hdg hcv hC hRm hst hstk (fun v h' hz => by obtain ⟨e, q⟩ := hz; cases e; exact kk h' q) (fun E h' hz => by cases hz.1)
end VC2
