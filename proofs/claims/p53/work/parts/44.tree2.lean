/-! ===== the tree of a sheet ===== -/
def TI (K : Nat) (L : List Int32) (S : SH) : Prop := (z_lower S).length = 16 ∧ (z_higher S).length = 16 ∧ Tr (z_lower S) (z_higher S) K (z_root S) L ∧ So (z_ids S) (z_beats S) L ∧ (∀ x ∈ L, ¬ rd (z_kinds S) x = 0) ∧ z_count S = nI L.length ∧ L.length ≤ K ∧ (∀ q, q < 16 → nI q ∉ L → rd (z_lower S) (nI q) = -1 ∧ rd (z_higher S) (nI q) = -1) ∧ z_nid S = nI K ∧ (∀ x ∈ L, (rd (z_ids S) x).toNatClampNeg < K) ∧ (z_ids S).length = 16 ∧ (z_beats S).length = 16
section
variable {B K T : Nat} {S : SH} {L : List Int32}
theorem ti_put {k p b z : Int32} (h : TI K L S) (hI : Inv B K T S) (hK : K < 16) (hk : k = 104 ∨ k = 109 ∨ k = 112) (hb : Bd b 199) : ∃ L', TI (K + 1) L' (U_put S k p b z) ∧ L'.length = L.length + 1 := by
  obtain ⟨t1, t2, t3, t4, t5, t6, t7, t8, t9, t10, t11, t12⟩ := h
  have hk0 : ¬ k = 0 := by rcases hk with rfl | rfl | rfl <;> decide
  have hpe : pend (z_kinds S) = L.length := by
    have h14 := hI.2.2.2.2.2.2.2.2.2.2.2.2.2
    have h16 := pend_le (L := z_kinds S)
    have h2 := hI.2.1
    rw [t6] at h14
    exact ((nI_eq (by omega) (by omega)).mp h14).symm
  unfold U_put
  rcases put_spec (z_ids S) (z_kinds S) (z_players S) (z_beats S) (z_sizes S) (z_lower S) (z_higher S) (z_root S) (z_count S) (z_nid S) k p b z with ⟨-, hall⟩ | ⟨j, hj, -, h0, -, e⟩
  · exfalso
    have h2 := hI.2.1
    have : pend (z_kinds S) = (z_kinds S).length := by
      refine List.countP_eq_length.mpr (fun a ha => ?_)
      obtain ⟨q, hq, eq⟩ := List.mem_iff_getElem.mp ha
      have := hall q (by omega)
      rw [rd_get (by rw [nI_clamp (by omega)]; exact hq)] at this
      simp only [nI_clamp (show q < 2 ^ 31 by omega)] at this
      rw [eq] at this
      simpa using this
    omega
  · rw [e]
    have hjL : nI j ∉ L := fun g => t5 _ g h0
    have hlh := t8 j hj hjL
    have hjc : (nI j).toNatClampNeg = j := nI_clamp (by omega)
    have hne : ∀ x ∈ L, ∀ A : List Int32, ∀ y : Int32, rd (wr A (nI j) y) x = rd A x := fun x hx A y => by
      obtain ⟨q, hq, eq⟩ := Tr_slot t3 x hx
      refine rd_wr_ne (fun c => ?_)
      rw [hjc, eq, nI_clamp (by omega)] at c
      exact hjL (by rw [c, ← eq]; exact hx)
    have hky : ∀ x ∈ L, ky (wr (z_ids S) (nI j) (z_nid S)) (wr (z_beats S) (nI j) b) x = ky (z_ids S) (z_beats S) x := fun x hx => by
      unfold ky; rw [hne x hx, hne x hx]
    have hso : So (wr (z_ids S) (nI j) (z_nid S)) (wr (z_beats S) (nI j) b) L := by
      refine List.Pairwise.imp_of_mem (fun {x y} hx hy hxy => ?_) t4
      rw [hky x hx, hky y hy]; exact hxy
    have eid : rd (wr (z_ids S) (nI j) (z_nid S)) (nI j) = nI K := by rw [rd_wr_same (by rw [hjc, t11]; exact hj)]; exact t9
    have hkn : ∀ x ∈ L, ¬ ky (wr (z_ids S) (nI j) (z_nid S)) (wr (z_beats S) (nI j) b) x = ky (wr (z_ids S) (nI j) (z_nid S)) (wr (z_beats S) (nI j) b) (nI j) := fun x hx c => by
      rw [hky x hx] at c
      unfold ky at c
      rw [eid, nI_clamp (by omega)] at c
      have := t10 x hx
      omega
    have hids : ∀ x, x = nI j ∨ x ∈ L → (rd (wr (z_ids S) (nI j) (z_nid S)) x).toNatClampNeg < K + 1 := fun x hx => by
      rcases hx with g | g
      · rw [g, eid, nI_clamp (by omega)]; omega
      · rw [hne x g]; exact Nat.lt_succ_of_lt (t10 x g)
    have hkin : ∀ x, x = nI j ∨ x ∈ L → ¬ rd (wr (z_kinds S) (nI j) k) x = 0 := fun x hx => by
      rcases hx with g | g
      · rw [g, rd_wr_same (by rw [hjc, hI.2.1]; exact hj)]; exact hk0
      · rw [hne x g]; exact t5 x g
    have hcnt : z_count S + 1 = nI (L.length + 1) := by rw [t6, nI_1]
    have hnid : z_nid S + 1 = nI (K + 1) := by rw [t9, nI_1]
    by_cases cr : z_root S = -1
    · have hL : L = [] := by rw [cr] at t3; exact Tr_m1 t3
      have el : T_X3_link (wr (z_ids S) (nI j) (z_nid S)) (wr (z_beats S) (nI j) b) (z_lower S) (z_higher S) (z_root S) (nI j) = (z_lower S, z_higher S, nI j) := by
        unfold T_X3_link; rw [cr, if_pos isSlot_m1]
      rw [el]
      subst hL
      have hT0 : Tr (z_lower S) (z_higher S) (K + 1) (nI j) [nI j] := Or.inr ⟨j, [], [], hj, rfl, rfl, by rw [hlh.1]; exact Tr_end, by rw [hlh.2]; exact Tr_end⟩
      refine ⟨[nI j], ⟨t1, t2, hT0, List.pairwise_singleton _ _, fun x hx => hkin x (Or.inl (List.mem_singleton.mp hx)), hcnt, by simp, fun q hq hx => t8 q hq (fun g => by cases g), hnid, fun x hx => hids x (Or.inl (List.mem_singleton.mp hx)), by rw [← t11]; exact wr_len _ _ _, by rw [← t12]; exact wr_len _ _ _⟩, rfl⟩
    · obtain ⟨lo', hi', L', q1, q2, q3, q4, q5, q6, q7, q8⟩ := link_tr (ids := wr (z_ids S) (nI j) (z_nid S)) (beats := wr (z_beats S) (nI j) b) (K := K) (BL_wr hI.2.2.2.2.1 hI.2.2.2.2.2.1) (by omega) (BL_wr hI.2.2.2.2.2.2.1 hb) hj 16 0 (z_root S) (z_lower S) (z_higher S) (z_root S) L (by omega) t1 t2 t3 cr hso hjL hlh.1 hlh.2 hkn
      have el : T_X3_link (wr (z_ids S) (nI j) (z_nid S)) (wr (z_beats S) (nI j) b) (z_lower S) (z_higher S) (z_root S) (nI j) = (lo', hi', z_root S) := by
        unfold T_X3_link
        rw [if_neg (fun c => ?_), q1]
        rcases Tr_mem t3 with g | g
        · exact cr g
        · obtain ⟨q, hq, eq⟩ := Tr_slot t3 _ g
          rw [eq, isSlot_nI hq] at c
          exact absurd c (by decide)
      rw [el]
      refine ⟨L', ⟨q2, q3, q4, q5, fun x hx => hkin x ((q6 x).mp hx), by rw [q7]; exact hcnt, by rw [q7]; omega, fun q hq hx => ?_, hnid, fun x hx => hids x ((q6 x).mp hx), by rw [← t11]; exact wr_len _ _ _, by rw [← t12]; exact wr_len _ _ _⟩, q7⟩
      have hx2 : nI q ∉ L := fun g => hx ((q6 _).mpr (Or.inr g))
      have := q8 (nI q) ⟨q, hq, rfl⟩ hx2
      exact ⟨this.1.trans (t8 q hq hx2).1, this.2.trans (t8 q hq hx2).2⟩
theorem So_nodup {ids beats L : List Int32} (h : So ids beats L) : L.Nodup := List.Pairwise.imp (fun {a b} hab e => by rw [e] at hab; exact Nat.lt_irrefl _ hab) h
theorem ti_drop {s : Int32} {R : List Int32} (h : TI K (s :: R) S) (hI : (z_kinds S).length = 16) : TI K R (U_dropS S s) := by
  obtain ⟨t1, t2, t3, t4, t5, t6, t7, t8, t9, t10, t11, t12⟩ := h
  obtain ⟨q, hq, eq⟩ := Tr_slot t3 s (by simp)
  have hk := t5 s (by simp)
  have hnd := So_nodup t4
  have hmin := (Tr_min t3).1
  have hsm : ¬ s = -1 := fun c => m1_nI hq (c.symm.trans eq)
  have ej : T_X3_joined (z_higher S) (rd (z_lower S) s) (rd (z_higher S) s) = (rd (z_higher S) s, z_higher S) := by rw [hmin]; exact joined_m1 _ _
  have hw : ¬ rd (z_higher S) s = nI q := fun c => by
    rcases (Tr_min t3).2 with g | g
    · rw [g] at c; exact m1_nI hq c
    · rw [c, ← eq] at g
      exact (List.nodup_cons.mp hnd).1 g
  have hd : T_X3_drop (z_kinds S) (z_lower S) (z_higher S) (z_root S) (z_count S) s = (wr (z_kinds S) s 0, (T_X3_unlink (z_lower S) (z_higher S) (z_root S) s).1, (T_X3_unlink (z_lower S) (z_higher S) (z_root S) s).2.1, (T_X3_unlink (z_lower S) (z_higher S) (z_root S) s).2.2, z_count S - 1) := by
    unfold T_X3_drop
    rw [if_neg (by rw [eq, isSlot_nI hq]; decide), if_neg hk]
  have hu : ∃ lo' hi', T_X3_unlink (z_lower S) (z_higher S) (z_root S) s = (lo', hi', if z_root S = s then rd (z_higher S) s else z_root S) ∧ lo'.length = 16 ∧ hi'.length = 16 ∧ (∀ p, p < 16 → ¬ p = q → rd lo' (nI p) = if 0 ≤ p ∧ rd (z_lower S) (nI p) = nI q then rd (z_higher S) s else rd (z_lower S) (nI p)) ∧ (∀ p, p < 16 → ¬ p = q → rd hi' (nI p) = if 0 ≤ p ∧ rd (z_higher S) (nI p) = nI q then rd (z_higher S) s else rd (z_higher S) (nI p)) ∧ rd lo' (nI q) = -1 ∧ rd hi' (nI q) = -1 := by
    unfold T_X3_unlink
    rw [ej]
    obtain ⟨lo', hi', q1, q2, q3, q4⟩ := unlink_L (z_lower S) (z_higher S) hq (w := rd (z_higher S) s) (by rw [← eq, ej]) hw 16 0 (z_lower S) (z_higher S) (if z_root S = s then rd (z_higher S) s else z_root S) (by omega) t1 t2
    refine ⟨lo', hi', ?_, q2, q3, q4⟩
    rw [← eq] at q1
    by_cases c : z_root S = s
    · rw [if_pos c] at q1 ⊢
      rw [if_pos c]; exact q1
    · rw [if_neg c] at q1 ⊢
      rw [if_neg c]; exact q1
  obtain ⟨lo', hi', u1, u2, u3, u4, u5, u6, u7⟩ := hu
  rw [u1] at hd
  unfold U_dropS
  rw [hd]
  have hsR := (List.nodup_cons.mp hnd).1
  have hl : ∀ x, (∃ q : Nat, q < 16 ∧ x = nI q) → ¬ x = s → rd lo' x = if rd (z_lower S) x = s then rd (z_higher S) s else rd (z_lower S) x := fun x ⟨p, hp, ep⟩ hx => by
    rw [ep, u4 p hp (fun c => hx (by rw [ep, c, eq])), eq]
    simp
  have hh : ∀ x, (∃ q : Nat, q < 16 ∧ x = nI q) → ¬ x = s → rd hi' x = if rd (z_higher S) x = s then rd (z_higher S) s else rd (z_higher S) x := fun x ⟨p, hp, ep⟩ hx => by
    rw [ep, u5 p hp (fun c => hx (by rw [ep, c, eq])), eq]
    simp
  refine ⟨u2, u3, Tr_drop rfl hl hh hsm t3 hnd, (List.pairwise_cons.mp t4).2, fun x hx => ?_, ?_, by have : (s :: R).length = R.length + 1 := rfl; omega, fun p hp hx => ?_, t9, fun x hx => t10 x (by simp [hx]), t11, t12⟩
  · show ¬ rd (wr (z_kinds S) s 0) x = 0
    obtain ⟨p, hp, ep⟩ := Tr_slot t3 x (by simp [hx])
    rw [rd_wr_ne (fun c => ?_)]
    · exact t5 x (by simp [hx])
    · rw [eq, ep, nI_clamp (by omega), nI_clamp (by omega)] at c
      exact hsR (by rw [eq, c, ← ep]; exact hx)
  · show z_count S - 1 = nI R.length
    rw [t6]
    exact nI_pred _
  · show rd lo' (nI p) = -1 ∧ rd hi' (nI p) = -1
    by_cases c : p = q
    · rw [c]; exact ⟨u6, u7⟩
    · have hps : ¬ nI p = s := fun g => c ((nI_eq (by omega) (by omega)).mp (g.trans eq))
      have h9 := t8 p hp (fun g => by
        rcases List.mem_cons.mp g with g | g
        · exact hps g
        · exact hx g)
      rw [hl _ ⟨p, hp, rfl⟩ hps, hh _ ⟨p, hp, rfl⟩ hps, h9.1, h9.2, if_neg (fun g => hsm g.symm)]
      exact ⟨rfl, rfl⟩
theorem kinds_dropS {s : Int32} : (z_kinds (U_dropS S s)).length = (z_kinds S).length := by
  show (T_X3_drop (z_kinds S) (z_lower S) (z_higher S) (z_root S) (z_count S) s).1.length = _
  unfold T_X3_drop
  split
  · rfl
  · split
    · rfl
    · exact wr_len _ _ _
theorem ti_drops {o : List Int32} : ∀ (f i : Nat) (M : List Int32) (S : SH), TI K M S → (z_kinds S).length = 16 → f ≤ M.length → (∀ j, j < f → rd o (nI (i + j)) = M.getD j 0) → TI K (M.drop f) (U_drops o f i S) := by
  intro f
  induction f with
  | zero => intro i M S h _ _ _; exact h
  | succ f ih =>
    intro i M S h hk hf hj
    cases M with
    | nil => exact absurd hf (by simp)
    | cons s R =>
      have e0 := hj 0 (by omega)
      rw [Nat.add_zero] at e0
      rw [U_drops, e0]
      refine ih (i + 1) R _ (ti_drop h hk) (kinds_dropS.trans hk) (by simpa using hf) (fun j hj2 => ?_)
      have := hj (j + 1) (by omega)
      rw [show i + 1 + j = i + (j + 1) by omega, this]
      rfl
theorem ti_last (h : TI K L S) : TI K L (U_last S) := by
  unfold U_last
  split
  · exact h
  · exact h
theorem ti_happ {v : Int32} (h : TI K L S) : TI K L (zs_happ S v) := h
theorem ti_mouths (h : TI K L S) : TI K L (U_closeMouths S) := h
theorem ti_zbeat {v : Int32} (h : TI K L S) : TI K L (zs_beat S v) := h
theorem ti_begin {o : List Int32} {d : Int32} (h : TI K L S) : TI K L (U_beginHushes S o d) := h
theorem ti_open {o : List Int32} {d : Int32} (h : TI K L S) : TI K L (U_openMouths S o d) := h
theorem ti_props {o : List Int32} {d : Int32} (h : TI K L S) : TI K L (U_dropProps S o d) := h
theorem kinds_begin {o : List Int32} {d : Int32} : z_kinds (U_beginHushes S o d) = z_kinds S := rfl
theorem kinds_open {o : List Int32} {d : Int32} : z_kinds (U_openMouths S o d) = z_kinds S := rfl
theorem kinds_props {o : List Int32} {d : Int32} : z_kinds (U_dropProps S o d) = z_kinds S := rfl
theorem ti_cues (h : TI K L S) (hI : Inv B K T S) (hK : K ≤ 16) (hT : T < 900) : ∃ L', TI K L' (U_cues S) := by
  unfold U_cues U_tail
  obtain ⟨t, ht, et⟩ := hI.2.2.2.2.2.2.2.2.2.2.2.2.1
  have hmK : L.length ≤ K := h.2.2.2.2.2.2.1
  have hl := lst_tr (ids := z_ids S) (beats := z_beats S) (lo := z_lower S) (hi := z_higher S) (K := K) hI.2.2.2.2.1 (by omega) hI.2.2.2.2.2.2.1 (f0 := K) hK h.2.2.1 h.2.2.2.1 (by omega) (lb := t) (by omega)
  rw [et]
  unfold Lst
  generalize T_X3_listThrough (z_ids S) (z_beats S) (z_lower S) (z_higher S) od0 (z_root S) (nI t) = d at hl
  generalize hm : (L.takeWhile (fun x => decide ((rd (z_beats S) x).toNatClampNeg ≤ t))).length = m at hl
  have hmL : m ≤ L.length := by
    rw [← hm]
    exact (List.takeWhile_sublist _).length_le
  refine ⟨L.drop m, ti_last (ti_happ ?_)⟩
  unfold U_due
  rw [hl.1, nI_clamp (by omega)]
  exact ti_drops m 0 L _ (ti_props (ti_open (ti_begin h))) (by rw [kinds_props, kinds_open, kinds_begin]; exact hI.2.1) hmL (fun j hj => by rw [Nat.zero_add]; exact hl.2 j hj)
theorem ti_passBeat (h : TI K L S) (hI : Inv B K T S) (hK : K ≤ 16) (hT : T < 899) : ∃ L', TI K L' (U_passBeat S) := by
  unfold U_passBeat
  exact ti_cues (ti_mouths (ti_zbeat h)) (inv_mouths (inv_zbeat hI)) hK (by omega)
theorem ti_beats : ∀ (f B T : Nat) (S : SH) (L : List Int32), TI K L S → Inv B K T S → K ≤ 16 → T + f < 890 → ∃ L', TI K L' (U_beats f S) := by
  intro f
  induction f with
  | zero => intro B T S L h _ _ _; exact ⟨L, h⟩
  | succ f ih =>
    intro B T S L h hI hK hT
    obtain ⟨L1, h1⟩ := ti_passBeat h hI hK (by omega)
    exact ih _ _ _ L1 h1 (inv_passBeat hI) hK (by omega)
end
/-! ranks -/
theorem has_nI {n q : Nat} (hn : n ≤ 6) (hq : q < 6) : T_X6_hasPerformer (nI n) (nI q) = if q < n then 1 else 0 := by
  unfold T_X6_hasPerformer
  rw [if_neg (nI_pos (by omega))]
  by_cases c : q < n
  · rw [if_neg (nI_ge c (by omega)), if_neg (show ¬ (6 : Int32) ≤ nI q from nI_ge (a := q) (b := 6) hq (by omega)), if_pos c]
  · rw [if_pos (nI_le (by omega) (by omega)), if_neg c]
theorem rank_lt {kinds players owed : List Int32} {n p : Nat} (hn : n ≤ 6) (hp : p < n) : ∃ c, c < n ∧ T_X6_rankOf kinds players owed (nI n) (nI p) = nI c := by
  have : ∀ (f i c : Nat), i + f = 6 → ∃ c', c' + (if i ≤ p then 1 else 0) ≤ c + (n - i) ∧ T_X6_rankOf_L4 kinds players owed (nI n) (nI p) f i (nI c) = nI c' := by
    intro f
    induction f with
    | zero => intro i c hi; exact ⟨c, by rw [if_neg (by omega)]; omega, rfl⟩
    | succ f ih =>
      intro i c hi
      rw [T_X6_rankOf_L4, has_nI hn (by omega)]
      by_cases c1 : i < n
      · rw [if_pos c1, if_neg (show ¬ (1 : Int32) = 0 by decide)]
        by_cases c2 : i = p
        · subst c2
          have e : T_X6_comesBefore kinds players owed (nI i) (nI i) = 0 := by
            unfold T_X6_comesBefore
            rw [if_pos rfl, Int32.sub_self, if_pos rfl, if_pos (Int32.le_refl _)]
          rw [if_pos e]
          obtain ⟨c', h1, h2⟩ := ih (i + 1) c (by omega)
          exact ⟨c', by rw [if_pos (Nat.le_refl _)]; rw [if_neg (by omega)] at h1; omega, h2⟩
        · by_cases c3 : T_X6_comesBefore kinds players owed (nI i) (nI p) = 0
          · obtain ⟨c', h1, h2⟩ := ih (i + 1) c (by omega)
            refine ⟨c', ?_, by rw [if_pos c3]; exact h2⟩
            by_cases c4 : i ≤ p
            · rw [if_pos c4]; rw [if_pos (by omega)] at h1; omega
            · rw [if_neg c4]; rw [if_neg (by omega)] at h1; omega
          · obtain ⟨c', h1, h2⟩ := ih (i + 1) (c + 1) (by omega)
            refine ⟨c', ?_, by rw [if_neg c3, nI_1]; exact h2⟩
            by_cases c4 : i ≤ p
            · rw [if_pos c4]; rw [if_pos (by omega)] at h1; omega
            · rw [if_neg c4]; rw [if_neg (by omega)] at h1; omega
      · rw [if_neg c1, if_pos rfl]
        obtain ⟨c', h1, h2⟩ := ih (i + 1) c (by omega)
        exact ⟨c', by rw [if_neg (by omega)]; rw [if_neg (by omega)] at h1; omega, h2⟩
  obtain ⟨c', h1, h2⟩ := this 6 0 0 (by omega)
  refine ⟨c', by rw [if_pos (Nat.zero_le _)] at h1; omega, ?_⟩
  unfold T_X6_rankOf
  rw [← h2, nI_0]
theorem no_rank {S : SH} {n : Nat} (hp : z_perf S = nI n) (hn : n ≤ 6) {r : Int32} (hr : ∀ c, c < n → ¬ nI c = r) : U_ranked S r = -1 := by
  have : ∀ (f i : Nat), i + f = 6 → T_X6_ranked_L2 (z_kinds S) (z_players S) (z_owed S) (nI n) r f i = -1 := by
    intro f
    induction f with
    | zero => intro i _; rfl
    | succ f ih =>
      intro i hi
      rw [T_X6_ranked_L2, has_nI hn (by omega), ih (i + 1) (by omega)]
      by_cases c1 : i < n
      · obtain ⟨c, h1, h2⟩ := rank_lt (kinds := z_kinds S) (players := z_players S) (owed := z_owed S) hn c1
        rw [if_pos c1, if_neg (show ¬ (1 : Int32) = 0 by decide), h2, if_neg (hr c h1)]
      · rw [if_neg c1, if_pos rfl]
  unfold U_ranked T_X6_ranked
  rw [hp]
  exact this 6 0 (by omega)
