/-! ===== the sheet: what the calls by rank or id find ===== -/
section
variable {B K T : Nat} {S : SH} {L : List Int32}
theorem take_all {p : Int32 → Bool} : ∀ {L : List Int32}, (∀ x ∈ L, p x = true) → L.takeWhile p = L := by
  intro L
  induction L with
  | nil => intro _; rfl
  | cons a L ih => intro h; rw [List.takeWhile_cons_of_pos (h a (by simp)), ih (fun x hx => h x (by simp [hx]))]
theorem at_rank (h : TI K L S) (hI : Inv B K T S) (hK : K ≤ 16) : (∀ c, c < L.length → U_slotAt S (nI c) = L.getD c 0) ∧ U_slotAt S (nI L.length) = -1 := by
  have hl := lst_tr (ids := z_ids S) (beats := z_beats S) (lo := z_lower S) (hi := z_higher S) (K := K) hI.2.2.2.2.1 (by omega) hI.2.2.2.2.2.2.1 (f0 := K) hK h.2.2.1 h.2.2.2.1 (by have := h.2.2.2.2.2.2.1; omega) (lb := 199) (by omega)
  rw [take_all (fun x hx => by
    obtain ⟨u, hu, eu⟩ := hI.2.2.2.2.2.2.1 x
    rw [eu, nI_clamp (by omega)]
    simpa using hu)] at hl
  have hmK : L.length ≤ K := h.2.2.2.2.2.2.1
  have e9 : (nI 199 : Int32) = 199 := by decide
  have e16 : (nI 16 : Int32) = 16 := by decide
  rw [e9] at hl
  unfold U_slotAt T_X3_slotAt
  generalize T_X3_listThrough (z_ids S) (z_beats S) (z_lower S) (z_higher S) od0 (z_root S) 199 = r at hl ⊢
  obtain ⟨r1, r2⟩ := r
  obtain ⟨h1, h2⟩ := hl
  refine ⟨fun c hc => ?_, ?_⟩
  · have g1 : ¬ nI c < 0 := nI_pos (by omega)
    have g2 : ¬ r1 ≤ nI c := by
      show ¬ (r1, r2).1 ≤ nI c
      rw [h1]; exact nI_ge hc (by omega)
    have g3 : ¬ (16 : Int32) ≤ nI c := by rw [← e16]; exact nI_ge (a := c) (b := 16) (by omega) (by omega)
    rw [tb, if_neg g1, if_neg g2, if_neg g3]
    exact h2 c hc
  · have g1 : ¬ nI L.length < 0 := nI_pos (by omega)
    have g2 : r1 ≤ nI L.length := by
      show (r1, r2).1 ≤ nI L.length
      rw [h1]; exact Int32.le_refl _
    rw [tb, if_neg g1, if_pos g2]
theorem slotOf_spec (ids kinds : List Int32) (id : Int32) : ∀ (f i : Nat), (T_X3_slotOf_L2 ids kinds id f i = -1 ∧ ∀ k, i ≤ k → k < i + f → ¬ rd kinds (nI k) = 0 → ¬ rd ids (nI k) = id) ∨ ∃ j, i ≤ j ∧ j < i + f ∧ T_X3_slotOf_L2 ids kinds id f i = nI j ∧ ¬ rd kinds (nI j) = 0 ∧ rd ids (nI j) = id := by
  intro f
  induction f with
  | zero => intro i; exact Or.inl ⟨rfl, fun k h1 h2 => absurd h2 (by omega)⟩
  | succ f ih =>
    intro i
    have go : (rd kinds (nI i) = 0 ∨ ¬ rd ids (nI i) = id) → (T_X3_slotOf_L2 ids kinds id f (i + 1) = -1 ∧ ∀ k, i ≤ k → k < i + (f + 1) → ¬ rd kinds (nI k) = 0 → ¬ rd ids (nI k) = id) ∨ ∃ j, i ≤ j ∧ j < i + (f + 1) ∧ T_X3_slotOf_L2 ids kinds id f (i + 1) = nI j ∧ ¬ rd kinds (nI j) = 0 ∧ rd ids (nI j) = id := fun c => by
      rcases ih (i + 1) with ⟨e, he⟩ | ⟨j, h1, h2, h3⟩
      · refine Or.inl ⟨e, fun k g1 g2 g3 g4 => ?_⟩
        by_cases e : k = i
        · subst e
          exact c.elim (fun c => g3 c) (fun c => c g4)
        · exact he k (by omega) (by omega) g3 g4
      · exact Or.inr ⟨j, by omega, by omega, h3⟩
    rw [T_X3_slotOf_L2]
    split
    · rename_i c; exact go (Or.inl c)
    · rename_i c
      split
      · rename_i c2; exact Or.inr ⟨i, Nat.le_refl _, by omega, rfl, c, c2⟩
      · rename_i c2; exact go (Or.inr c2)
theorem pend_slot (S : SH) (id : Int32) : (T_X7_pendingSlot S id = .inr 0 ∧ T_X3_slotOf (z_ids S) (z_kinds S) id = -1 ∧ ∀ k, k < 16 → ¬ rd (z_kinds S) (nI k) = 0 → ¬ rd (z_ids S) (nI k) = id) ∨ ∃ j, j < 16 ∧ T_X7_pendingSlot S id = .inl (nI j) ∧ T_X3_slotOf (z_ids S) (z_kinds S) id = nI j ∧ ¬ rd (z_kinds S) (nI j) = 0 ∧ rd (z_ids S) (nI j) = id := by
  unfold T_X7_pendingSlot
  rcases slotOf_spec (z_ids S) (z_kinds S) id 16 0 with ⟨e, he⟩ | ⟨j, h1, h2, h3, h4, h5⟩
  · have e2 : T_X3_slotOf (z_ids S) (z_kinds S) id = -1 := e
    rw [e2, if_pos isSlot_m1]
    exact Or.inl ⟨rfl, rfl, fun k hk => he k (Nat.zero_le _) (by omega)⟩
  · have e2 : T_X3_slotOf (z_ids S) (z_kinds S) id = nI j := h3
    rw [e2, if_neg (by rw [isSlot_nI (by omega)]; decide)]
    exact Or.inr ⟨j, by omega, rfl, rfl, h4, h5⟩
theorem no_id (hI : Inv B K T S) {id : Int32} (h : ∀ n, n ≤ K → ¬ nI n = id) : T_X7_pendingSlot S id = .inr 0 ∧ T_X3_slotOf (z_ids S) (z_kinds S) id = -1 := by
  rcases pend_slot S id with ⟨e, e2, -⟩ | ⟨j, -, -, -, -, e⟩
  · exact ⟨e, e2⟩
  · obtain ⟨n, hn, en⟩ := hI.2.2.2.2.1 (nI j)
    exact absurd (en.symm.trans e) (h n hn)
theorem first_200 (h : TI K L S) (hI : Inv B K T S) (hK : K ≤ 16) : T_X3_firstFrom (z_ids S) (z_beats S) (z_lower S) (z_higher S) (z_root S) 200 = -1 := by
  unfold T_X3_firstFrom T_X3_firstNotBefore
  have := first_tr (ids := z_ids S) (beats := z_beats S) (lo := z_lower S) (hi := z_higher S) (K := K) hI.2.2.2.2.1 (by omega) hI.2.2.2.2.2.2.1 (b := 200) (k := 0) (by omega) (by omega) 16 0 (z_root S) (-1) L hK h.2.2.1 h.2.2.2.1
  rw [show (nI 200 : Int32) = 200 by decide, nI_0, List.find?_eq_none.mpr (fun x hx => ?_)] at this
  · exact this
  · obtain ⟨u, hu, eu⟩ := hI.2.2.2.2.2.2.1 x
    obtain ⟨v, hv, ev⟩ := hI.2.2.2.2.1 x
    unfold ky
    rw [eu, ev, nI_clamp (by omega), nI_clamp (by omega)]
    simp
    omega
theorem scan_200 (hI : Inv B K T S) : T_X3_firstFromScanned (z_ids S) (z_kinds S) (z_beats S) 200 = -1 := by
  have : ∀ (f i : Nat), T_X3_firstFromScanned_L4 (z_ids S) (z_kinds S) (z_beats S) 200 f i (-1) = -1 := by
    intro f
    induction f with
    | zero => intro i; rfl
    | succ f ih =>
      intro i
      obtain ⟨u, hu, eu⟩ := hI.2.2.2.2.2.2.1 (nI i)
      rw [T_X3_firstFromScanned_L4, eu, ih, if_pos (show nI u < 200 from nI_lt (a := u) (b := 200) (by omega) (by omega))]
      split <;> rfl
  exact this 16 0
end
