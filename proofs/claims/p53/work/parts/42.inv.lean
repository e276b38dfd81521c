/-! ===== what holds of every sheet of the law's second opera ===== -/
def Bd (x : Int32) (b : Nat) : Prop := ∃ n : Nat, n ≤ b ∧ x = nI n
theorem Bd_mono {x : Int32} {a b : Nat} (h : Bd x a) (hl : a ≤ b) : Bd x b := by
  obtain ⟨n, h1, h2⟩ := h
  exact ⟨n, Nat.le_trans h1 hl, h2⟩
theorem Bd_nn {x : Int32} {b : Nat} (h : Bd x b) (hb : b < 2 ^ 31) : ¬ x < 0 := by
  obtain ⟨n, h1, rfl⟩ := h
  exact nI_pos (by omega)
theorem Bd_of {x M : Int32} {n : Nat} (hM : M.toInt = n) (h0 : ¬ x < 0) (h5 : x ≤ M) : Bd x n := by
  obtain ⟨j, h1, h2⟩ := nI_of2 hM h0 h5
  exact ⟨j, h1, h2⟩
theorem Bd_0 {b : Nat} : Bd 0 b := ⟨0, Nat.zero_le _, nI_0.symm⟩
def BL (L : List Int32) (b : Nat) : Prop := ∀ i : Int32, Bd (rd L i) b
theorem BL_mono {L : List Int32} {a b : Nat} (h : BL L a) (hl : a ≤ b) : BL L b := fun i => Bd_mono (h i) hl
theorem BL_wr {L : List Int32} {b : Nat} {i x : Int32} (h : BL L b) (hx : Bd x b) : BL (wr L i x) b := fun j => rd_wr_cases (P := fun z => Bd z b) hx (h j) Bd_0
theorem BL_rep {n b : Nat} : BL (List.replicate n 0) b := fun i => by
  have : rd (List.replicate n 0) i = 0 := by
    unfold rd
    rw [List.getD_eq_getElem?_getD, List.getElem?_replicate]
    split <;> rfl
  rw [this]
  exact Bd_0
theorem rd_wr_or {L : List Int32} {i j x : Int32} : rd (wr L i x) j = x ∨ rd (wr L i x) j = rd L j := by
  by_cases e : i.toNatClampNeg = j.toNatClampNeg
  · by_cases g : i.toNatClampNeg < L.length
    · left
      have : rd (wr L i x) j = rd (wr L i x) i := by unfold rd; rw [e]
      rw [this, rd_wr_same g]
    · right
      have : wr L i x = L := by unfold wr; exact List.set_eq_of_length_le (by omega)
      rw [this]
  · right
    exact rd_wr_ne e
def KK (k : Int32) : Prop := k = 0 ∨ k = 104 ∨ k = 109 ∨ k = 112
def KL (L : List Int32) : Prop := ∀ i : Int32, KK (rd L i)
theorem KL_wr {L : List Int32} {i x : Int32} (h : KL L) (hx : KK x) : KL (wr L i x) := fun j => by
  rcases rd_wr_or (L := L) (i := i) (j := j) (x := x) with e | e
  · rw [e]; exact hx
  · rw [e]; exact h j
def PL (K P : List Int32) : Prop := ∀ i : Int32, rd K i = 0 ∨ rd K i = 104 ∨ Bd (rd P i) 5
theorem PL_wr {K P : List Int32} {s k x : Int32} (h : PL K P) (hl : K.length = P.length) (hx : k = 0 ∨ k = 104 ∨ Bd x 5) : PL (wr K s k) (wr P s x) := fun j => by
  by_cases e : s.toNatClampNeg = j.toNatClampNeg
  · by_cases g : s.toNatClampNeg < K.length
    · have e1 : rd (wr K s k) j = rd (wr K s k) s := by unfold rd; rw [e]
      have e2 : rd (wr P s x) j = rd (wr P s x) s := by unfold rd; rw [e]
      rw [e1, e2, rd_wr_same g, rd_wr_same (by omega)]
      exact hx
    · have e1 : wr K s k = K := by unfold wr; exact List.set_eq_of_length_le (by omega)
      have e2 : wr P s x = P := by unfold wr; exact List.set_eq_of_length_le (by omega)
      rw [e1, e2]
      exact h j
  · rw [rd_wr_ne e, rd_wr_ne e]
    exact h j
theorem PL_drop {K P : List Int32} {s : Int32} (h : PL K P) : PL (wr K s 0) P := fun j => by
  rcases rd_wr_or (L := K) (i := s) (j := j) (x := 0) with e | e
  · exact Or.inl e
  · rw [e]; exact h j
/-- how many cues are pending -/
def pend (L : List Int32) : Nat := L.countP (fun x => x != 0)
theorem pend_le {L : List Int32} : pend L ≤ L.length := List.countP_le_length
theorem rd_get {L : List Int32} {i : Int32} (h : i.toNatClampNeg < L.length) : rd L i = L[i.toNatClampNeg] := by
  unfold rd
  rw [List.getD_eq_getElem?_getD, List.getElem?_eq_getElem h]
  rfl
theorem pend_put {L : List Int32} {i x : Int32} (h : i.toNatClampNeg < L.length) (h0 : rd L i = 0) (hx : ¬ x = 0) : pend (wr L i x) = pend L + 1 := by
  unfold pend wr
  rw [List.countP_set h, ← rd_get h, h0]
  simp [hx]
theorem pend_drop {L : List Int32} {i : Int32} (h : i.toNatClampNeg < L.length) (h0 : ¬ rd L i = 0) : 1 ≤ pend L ∧ pend (wr L i 0) = pend L - 1 := by
  refine ⟨?_, ?_⟩
  · unfold pend
    refine List.countP_pos_iff.mpr ⟨L[i.toNatClampNeg], List.getElem_mem h, ?_⟩
    rw [← rd_get h]
    simpa using h0
  · unfold pend wr
    rw [List.countP_set h, ← rd_get h]
    simp [h0]
def Inv (B K T : Nat) (S : SH) : Prop := KL (z_kinds S) ∧ (z_kinds S).length = 16 ∧ (z_players S).length = 16 ∧ PL (z_kinds S) (z_players S) ∧ BL (z_ids S) K ∧ Bd (z_nid S) K ∧ BL (z_beats S) 199 ∧ BL (z_sizes S) 9 ∧ BL (z_owed S) B ∧ Bd (z_perf S) 6 ∧ Bd (z_lim S) 30 ∧ Bd (z_act S) 3 ∧ Bd (z_beat S) T ∧ z_count S = nI (pend (z_kinds S))
theorem Inv_mono {B K T B' K' T' : Nat} {S : SH} (h : Inv B K T S) (hB : B ≤ B') (hK : K ≤ K') (hT : T ≤ T') : Inv B' K' T' S := by
  obtain ⟨h1, h2, h3, h4, h5, h6, h7, h8, h9, h10, h11, h12, h13, h14⟩ := h
  exact ⟨h1, h2, h3, h4, BL_mono h5 hK, Bd_mono h6 hK, h7, h8, BL_mono h9 hB, h10, h11, h12, Bd_mono h13 hT, h14⟩
/-- a change that answers, or is refused with one of m exceptions and leaves the sheet -/
def OkR (m : Nat) (P : SH → Prop) (S : SH) (r : Int32 × SH) : Prop := (¬ r.1 < 0 ∧ P r.2) ∨ ((r.1 = -1 ∨ (2 ≤ m ∧ r.1 = -2) ∨ (3 ≤ m ∧ r.1 = -3)) ∧ r.2 = S)
theorem OkR_1 {m : Nat} {P : SH → Prop} {S : SH} {r : Int32 × SH} (e : r = (-1, S)) : OkR m P S r := by
  rw [e]
  exact Or.inr ⟨Or.inl rfl, rfl⟩
theorem OkR_2 {m : Nat} {P : SH → Prop} {S : SH} {r : Int32 × SH} (hm : 2 ≤ m) (e : r = (-2, S)) : OkR m P S r := by
  rw [e]
  exact Or.inr ⟨Or.inr (Or.inl ⟨hm, rfl⟩), rfl⟩
theorem OkR_3 {m : Nat} {P : SH → Prop} {S : SH} {r : Int32 × SH} (hm : 3 ≤ m) (e : r = (-3, S)) : OkR m P S r := by
  rw [e]
  exact Or.inr ⟨Or.inr (Or.inr ⟨hm, rfl⟩), rfl⟩
section
variable {B K T : Nat} {S : SH}
theorem ok_join (h : Inv B K T S) : OkR 1 (Inv B K T) S (U_join S) := by
  by_cases c : z_perf S < 6
  · refine Or.inl ?_
    have e : U_join S = (z_perf S + 1 - 1, (U_join S).2) := by unfold U_join T_X6_join; rw [if_pos c]
    have e2 : z_perf (U_join S).2 = z_perf S + 1 := by
      show (T_X6_join (z_perf S)).2 = _
      unfold T_X6_join; rw [if_pos c]
    obtain ⟨h1, h2, h3, h4, h5, h6, h7, h8, h9, ⟨n, hn, en⟩, h11, h12, h13, h14⟩ := h
    rw [e]
    rw [en] at c e2
    have hn6 : n < 6 := by
      rcases Nat.lt_or_ge n 6 with g | g
      · exact g
      · exact absurd c (nI_nlt (a := n) (b := 6) g (by omega))
    refine ⟨?_, h1, h2, h3, h4, h5, h6, h7, h8, h9, ?_, h11, h12, h13, h14⟩
    · show ¬ z_perf S + 1 - 1 < 0
      rw [en, nI_1, nI_pred]
      exact nI_pos (by omega)
    · show Bd (z_perf (U_join S).2) 6
      rw [e2, nI_1]
      exact ⟨n + 1, by omega, rfl⟩
  · exact OkR_1 (by unfold U_join T_X6_join; rw [if_neg c])
theorem pay_bd {L : List Int32} {p c : Int32} (h9 : BL L B) (c1 : ¬ c < 1) (c2 : c ≤ 99) (c3 : c ≤ rd L p) : Bd (rd L p - c) B := by
  obtain ⟨w, hw, ew⟩ := h9 p
  obtain ⟨j, hj, rfl⟩ := nI_of2 (M := 99) (n := 99) (by decide) (i1_0 c1) c2
  rw [ew] at c3 ⊢
  by_cases g : j ≤ w
  · rw [pk_sub g]
    exact ⟨w - j, by omega, rfl⟩
  · exact absurd c3 (nI_ge (by omega) (by omega))
theorem ok_pay (p c : Int32) (h : Inv B K T S) (hB : B < 2 ^ 30) : OkR 3 (Inv B K T) S (U_pay S p c) := by
  by_cases c1 : T_X6_hasPerformer (z_perf S) p = 0
  · exact OkR_1 (by unfold U_pay T_X6_pay; rw [if_pos c1])
  by_cases c2 : c < 1
  · exact OkR_2 (by decide) (by unfold U_pay T_X6_pay; rw [if_neg c1, if_pos c2])
  by_cases c3 : c ≤ 99
  · by_cases c4 : c ≤ rd (z_owed S) p
    · refine Or.inl ?_
      have e : T_X6_pay (z_owed S) (z_perf S) (z_paid S) p c = (rd (wr (z_owed S) p (rd (z_owed S) p - c)) p, wr (z_owed S) p (rd (z_owed S) p - c), z_paid S + c) := by
        unfold T_X6_pay; rw [if_neg c1, if_neg c2, if_pos c3, if_pos c4]
      have e1 : (U_pay S p c).1 = (T_X6_pay (z_owed S) (z_perf S) (z_paid S) p c).1 := rfl
      have e2 : z_owed (U_pay S p c).2 = (T_X6_pay (z_owed S) (z_perf S) (z_paid S) p c).2.1 := rfl
      rw [e] at e1 e2
      obtain ⟨h1, h2, h3, h4, h5, h6, h7, h8, h9, h10, h11, h12, h13, h14⟩ := h
      have hb := BL_wr (i := p) h9 (pay_bd (p := p) h9 c2 c3 c4)
      exact ⟨by rw [e1]; exact Bd_nn (hb p) (by omega), h1, h2, h3, h4, h5, h6, h7, h8, by rw [e2]; exact hb, h10, h11, h12, h13, h14⟩
    · exact OkR_3 (by decide) (by unfold U_pay T_X6_pay; rw [if_neg c1, if_neg c2, if_pos c3, if_neg c4])
  · exact OkR_2 (by decide) (by unfold U_pay T_X6_pay; rw [if_neg c1, if_neg c2, if_neg c3])
theorem BL_impose {L : List Int32} {perf imp p f : Int32} {b : Nat} (h : BL L B) (hf : Bd f b) : BL (T_X6_impose L perf imp p f).1 (B + b) := by
  unfold T_X6_impose
  split
  · exact BL_mono h (by omega)
  · refine BL_wr (BL_mono h (by omega)) ?_
    obtain ⟨w, hw, ew⟩ := h p
    obtain ⟨v, hv, ev⟩ := hf
    rw [ew, ev, nI_add]
    exact ⟨w + v, by omega, rfl⟩
theorem ok_hiss (p c : Int32) (h : Inv B K T S) : OkR 2 (Inv (B + 6) K T) S (U_hiss S p c) := by
  by_cases c1 : T_X6_hasPerformer (z_perf S) p = 0
  · exact OkR_1 (by unfold U_hiss T_X6_hiss; rw [if_pos c1])
  by_cases c2 : c < 1
  · exact OkR_2 (by decide) (by unfold U_hiss T_X6_hiss; rw [if_neg c1, if_pos c2])
  by_cases c3 : c ≤ 3
  · refine Or.inl ?_
    obtain ⟨h1, h2, h3, h4, h5, h6, h7, h8, h9, h10, h11, h12, h13, h14⟩ := h
    have e1 : (U_hiss S p c).1 = (T_X6_hiss (z_kinds S) (z_beats S) (z_sizes S) (z_owed S) (z_perf S) (z_beat S) (z_hend S) (z_imp S) p c).1 := rfl
    have e2 : z_owed (U_hiss S p c).2 = (T_X6_hiss (z_kinds S) (z_beats S) (z_sizes S) (z_owed S) (z_perf S) (z_beat S) (z_hend S) (z_imp S) p c).2.1 := rfl
    have hc : Bd (2 * c) 6 := by
      obtain ⟨j, hj, rfl⟩ := nI_of2 (M := 3) (n := 3) (by decide) (i1_0 c2) c3
      exact ⟨2 * j, by omega, pk_mul 2 j⟩
    by_cases c4 : T_X6_isSilent (z_kinds S) (z_beats S) (z_sizes S) (z_beat S) (z_hend S) (z_beat S) = 0
    · have e : T_X6_hiss (z_kinds S) (z_beats S) (z_sizes S) (z_owed S) (z_perf S) (z_beat S) (z_hend S) (z_imp S) p c = (0, (T_X6_impose (z_owed S) (z_perf S) (z_imp S) p 0).1, (T_X6_impose (z_owed S) (z_perf S) (z_imp S) p 0).2) := by
        unfold T_X6_hiss; rw [if_neg c1, if_neg c2, if_pos c3, if_pos c4]
      rw [e] at e1 e2
      exact ⟨by rw [e1]; exact (by decide : ¬ (0 : Int32) < 0), h1, h2, h3, h4, h5, h6, h7, h8, by rw [e2]; exact BL_mono (BL_impose (b := 6) h9 Bd_0) (Nat.le_refl _), h10, h11, h12, h13, h14⟩
    · have e : T_X6_hiss (z_kinds S) (z_beats S) (z_sizes S) (z_owed S) (z_perf S) (z_beat S) (z_hend S) (z_imp S) p c = (2 * c, (T_X6_impose (z_owed S) (z_perf S) (z_imp S) p (2 * c)).1, (T_X6_impose (z_owed S) (z_perf S) (z_imp S) p (2 * c)).2) := by
        unfold T_X6_hiss; rw [if_neg c1, if_neg c2, if_pos c3, if_neg c4]
      rw [e] at e1 e2
      exact ⟨by rw [e1]; exact Bd_nn hc (by omega), h1, h2, h3, h4, h5, h6, h7, h8, by rw [e2]; exact BL_impose h9 hc, h10, h11, h12, h13, h14⟩
  · exact OkR_2 (by decide) (by unfold U_hiss T_X6_hiss; rw [if_neg c1, if_neg c2, if_neg c3])
theorem free_spec (kinds : List Int32) : ∀ (f i : Nat), (T_X3_freeSlot_L2 kinds f i = -1 ∧ ∀ k, i ≤ k → k < i + f → ¬ rd kinds (nI k) = 0) ∨ ∃ j, i ≤ j ∧ j < i + f ∧ T_X3_freeSlot_L2 kinds f i = nI j ∧ rd kinds (nI j) = 0 ∧ ∀ k, i ≤ k → k < j → ¬ rd kinds (nI k) = 0 := by
  intro f
  induction f with
  | zero => intro i; exact Or.inl ⟨rfl, fun k h1 h2 => absurd h2 (by omega)⟩
  | succ f ih =>
    intro i
    rw [T_X3_freeSlot_L2]
    split
    · rename_i c
      exact Or.inr ⟨i, Nat.le_refl _, by omega, rfl, c, fun k h1 h2 => absurd h1 (by omega)⟩
    · rename_i c
      rcases ih (i + 1) with ⟨e, he⟩ | ⟨j, h1, h2, h3, h4, h5⟩
      · refine Or.inl ⟨e, fun k g1 g2 => ?_⟩
        by_cases e : k = i
        · rw [e]; exact c
        · exact he k (by omega) (by omega)
      · refine Or.inr ⟨j, by omega, by omega, h3, h4, fun k g1 g2 => ?_⟩
        by_cases e : k = i
        · rw [e]; exact c
        · exact h5 k (by omega) g2
theorem isSlot_nI {j : Nat} (h : j < 16) : T_X3_isSlot (nI j) = 1 := by
  unfold T_X3_isSlot
  rw [if_neg (nI_pos (by omega)), if_neg (show ¬ (16 : Int32) ≤ nI j from nI_ge (a := j) (b := 16) h (by omega))]
theorem put_spec (ids kinds players beats sizes lower higher : List Int32) (root count id kind player beat size : Int32) :
    T_X3_put ids kinds players beats sizes lower higher root count id kind player beat size = (ids, kinds, players, beats, sizes, lower, higher, root, count) ∧ (∀ k, k < 16 → ¬ rd kinds (nI k) = 0) ∨ ∃ j : Nat, j < 16 ∧ T_X3_freeSlot kinds = nI j ∧ rd kinds (nI j) = 0 ∧ (∀ k, k < j → ¬ rd kinds (nI k) = 0) ∧ T_X3_put ids kinds players beats sizes lower higher root count id kind player beat size = (wr ids (nI j) id, wr kinds (nI j) kind, wr players (nI j) player, wr beats (nI j) beat, wr sizes (nI j) size, (T_X3_link (wr ids (nI j) id) (wr beats (nI j) beat) lower higher root (nI j)).1, (T_X3_link (wr ids (nI j) id) (wr beats (nI j) beat) lower higher root (nI j)).2.1, (T_X3_link (wr ids (nI j) id) (wr beats (nI j) beat) lower higher root (nI j)).2.2, count + 1) := by
  rcases free_spec kinds 16 0 with ⟨e, he⟩ | ⟨j, -, h2, h3, h4, h5⟩
  · left
    have e2 : T_X3_freeSlot kinds = -1 := e
    refine ⟨?_, fun k hk => he k (Nat.zero_le _) (by omega)⟩
    unfold T_X3_put
    rw [e2, if_pos (by decide)]
  · right
    have e2 : T_X3_freeSlot kinds = nI j := h3
    refine ⟨j, by omega, e2, h4, fun k hk => h5 k (Nat.zero_le _) hk, ?_⟩
    unfold T_X3_put
    rw [e2, if_neg (by rw [isSlot_nI (by omega)]; decide)]
def zs_put (S : SH) (r : List Int32 × List Int32 × List Int32 × List Int32 × List Int32 × List Int32 × List Int32 × Int32 × Int32) : SH := (r.1, r.2.1, r.2.2.1, r.2.2.2.1, r.2.2.2.2.1, r.2.2.2.2.2.1, r.2.2.2.2.2.2.1, r.2.2.2.2.2.2.2.1, r.2.2.2.2.2.2.2.2, z_owed S, z_mends S, z_perf S, z_nid S + 1, z_beat S, z_act S, z_lim S, z_hend S, z_hbt S, z_happ S, z_clash S, z_imp S, z_paid S)
def U_put (S : SH) (kind p b z : Int32) : SH := zs_put S (T_X3_put (z_ids S) (z_kinds S) (z_players S) (z_beats S) (z_sizes S) (z_lower S) (z_higher S) (z_root S) (z_count S) (z_nid S) kind p b z)
theorem beat_bd {t : Nat} {beat b : Int32} (hb : beat = nI t) (ht : t < 2 ^ 31) (c : ¬ T_X6_isCueBeat beat b = 0) : ∃ n : Nat, n ≤ 199 ∧ t < n ∧ b = nI n := by
  unfold T_X6_isCueBeat at c
  split at c
  · exact absurd rfl c
  · rename_i c1
    split at c
    · exact absurd rfl c
    · rename_i c2
      have h0 : ¬ b < 0 := fun g => c1 (Int32.le_of_lt (Int32.lt_of_lt_of_le g (by rw [hb]; exact nI_pos' ht)))
      obtain ⟨n, hn, rfl⟩ := nI_of2 (M := 199) (n := 199) (by decide) h0 (Int32.not_lt.mp c2)
      refine ⟨n, hn, ?_, rfl⟩
      rw [hb] at c1
      rcases Nat.lt_or_ge t n with g | g
      · exact g
      · exact absurd (nI_le g ht) c1
theorem size_bd {z : Int32} (c : ¬ T_X6_isSize z = 0) : ∃ n : Nat, n ≤ 9 ∧ 1 ≤ n ∧ z = nI n := by
  unfold T_X6_isSize at c
  split at c
  · exact absurd rfl c
  · rename_i c1
    split at c
    · exact absurd rfl c
    · rename_i c2
      obtain ⟨n, hn, rfl⟩ := nI_of2 (M := 9) (n := 9) (by decide) (i1_0 c1) (Int32.not_lt.mp c2)
      refine ⟨n, hn, ?_, rfl⟩
      rcases Nat.lt_or_ge 0 n with g | g
      · exact g
      · exact absurd (show nI n < 1 from nI_lt (a := n) (b := 1) (by omega) (by omega)) c1
theorem perf_bd {perf p : Int32} (c : ¬ T_X6_hasPerformer perf p = 0) : ∃ n : Nat, n ≤ 5 ∧ p = nI n ∧ ¬ perf ≤ p := by
  unfold T_X6_hasPerformer at c
  split at c
  · exact absurd rfl c
  · rename_i c1
    split at c
    · exact absurd rfl c
    · rename_i c2
      split at c
      · exact absurd rfl c
      · rename_i c3
        have h6 : p ≤ 5 := by
          rcases pk_ix p (n := 6) (by omega) with g | g | ⟨j, hj, rfl⟩
          · exact absurd g c1
          · exact absurd g c3
          · exact nI_le (b := 5) (by omega) (by omega)
        obtain ⟨n, hn, rfl⟩ := nI_of2 (M := 5) (n := 5) (by decide) c1 h6
        exact ⟨n, hn, rfl, c2⟩
theorem inv_put {k p b z : Int32} (h : Inv B K T S) (hk : k = 104 ∨ k = 109 ∨ k = 112) (hp : k = 104 ∨ Bd p 5) (hb : Bd b 199) (hz : Bd z 9) : Inv B (K + 1) T (U_put S k p b z) := by
  obtain ⟨h1, h2, h3, h4, h5, h6, h7, h8, h9, h10, h11, h12, h13, h14⟩ := h
  have hid : Bd (z_nid S + 1) (K + 1) := by
    obtain ⟨n, hn, en⟩ := h6
    rw [en, nI_1]
    exact ⟨n + 1, by omega, rfl⟩
  have hkk : KK k := Or.inr hk
  have hk0 : ¬ k = 0 := by rcases hk with rfl | rfl | rfl <;> decide
  unfold U_put
  rcases put_spec (z_ids S) (z_kinds S) (z_players S) (z_beats S) (z_sizes S) (z_lower S) (z_higher S) (z_root S) (z_count S) (z_nid S) k p b z with ⟨e, -⟩ | ⟨j, hj, -, h0, -, e⟩
  · rw [e]
    exact ⟨h1, h2, h3, h4, BL_mono h5 (by omega), hid, h7, h8, h9, h10, h11, h12, h13, h14⟩
  · rw [e]
    refine ⟨KL_wr h1 hkk, by rw [← h2]; exact wr_len _ _ _, by rw [← h3]; exact wr_len _ _ _, PL_wr h4 (by omega) ?_, BL_wr (BL_mono h5 (by omega)) (Bd_mono h6 (by omega)), hid, BL_wr h7 hb, BL_wr h8 hz, h9, h10, h11, h12, h13, ?_⟩
    · rcases hp with g | g
      · exact Or.inr (Or.inl g)
      · exact Or.inr (Or.inr g)
    · show z_count S + 1 = nI (pend (wr (z_kinds S) (nI j) k))
      rw [pend_put (by rw [nI_clamp (by omega), h2]; exact hj) h0 hk0, h14, nI_1]
theorem put_played (S : SH) (k p b z : Int32) : U_putPlayed S k p b z = (if U_hasPerformer S p = 0 then (-1, S) else if T_X6_isCueBeat (z_beat S) b = 0 then (-2, S) else if T_X6_isSize z = 0 then (-2, S) else if T_X3_isFull (z_count S) = 0 then (z_nid S, U_put S k p b z) else (-3, S)) := by
  unfold U_putPlayed T_X6_putPlayed T_X6_putCue U_hasPerformer
  dsimp only [tb]
  split
  · rfl
  · split
    · rfl
    · split
      · rfl
      · split
        · rfl
        · rfl
theorem put_hush (S : SH) (b z : Int32) : U_putHush S b z = (if T_X6_isCueBeat (z_beat S) b = 0 then (-1, S) else if T_X6_isSize z = 0 then (-1, S) else if T_X3_isFull (z_count S) = 0 then (z_nid S, U_put S 104 (-1) b z) else (-2, S)) := by
  unfold U_putHush T_X6_putHush T_X6_putCue
  dsimp only [tb]
  split
  · rfl
  · split
    · rfl
    · split
      · rfl
      · rfl
theorem ok_putPlayed (k p b z : Int32) (hk : k = 109 ∨ k = 112) (h : Inv B K T S) (hK : K < 2 ^ 30) (hT : T < 2 ^ 30) : OkR 3 (Inv B (K + 1) T) S (U_putPlayed S k p b z) := by
  rw [put_played]
  split
  · exact OkR_1 rfl
  · rename_i c1
    split
    · exact OkR_2 (by decide) rfl
    · rename_i c2
      split
      · exact OkR_2 (by decide) rfl
      · rename_i c3
        split
        · obtain ⟨n, hn, en, -⟩ := perf_bd c1
          obtain ⟨t, ht, et⟩ := h.2.2.2.2.2.2.2.2.2.2.2.2.1
          obtain ⟨y, hy, -, ey⟩ := beat_bd et (by omega) c2
          obtain ⟨q, hq, -, eq⟩ := size_bd c3
          exact Or.inl ⟨Bd_nn h.2.2.2.2.2.1 (by omega), inv_put h (by rcases hk with g | g <;> simp [g]) (Or.inr ⟨n, hn, en⟩) ⟨y, hy, ey⟩ ⟨q, hq, eq⟩⟩
        · exact OkR_3 (by decide) rfl
theorem ok_putHush (b z : Int32) (h : Inv B K T S) (hK : K < 2 ^ 30) (hT : T < 2 ^ 30) : OkR 2 (Inv B (K + 1) T) S (U_putHush S b z) := by
  rw [put_hush]
  split
  · exact OkR_1 rfl
  · rename_i c2
    split
    · exact OkR_1 rfl
    · rename_i c3
      split
      · obtain ⟨t, ht, et⟩ := h.2.2.2.2.2.2.2.2.2.2.2.2.1
        obtain ⟨y, hy, -, ey⟩ := beat_bd et (by omega) c2
        obtain ⟨q, hq, -, eq⟩ := size_bd c3
        exact Or.inl ⟨Bd_nn h.2.2.2.2.2.1 (by omega), inv_put h (Or.inl rfl) (Or.inl rfl) ⟨y, hy, ey⟩ ⟨q, hq, eq⟩⟩
      · exact OkR_2 (by decide) rfl
theorem drop_spec (kinds lower higher : List Int32) (root count slot : Int32) : T_X3_drop kinds lower higher root count slot = (kinds, lower, higher, root, count) ∨ ∃ j : Nat, j < 16 ∧ slot = nI j ∧ ¬ rd kinds (nI j) = 0 ∧ T_X3_drop kinds lower higher root count slot = (wr kinds (nI j) 0, (T_X3_unlink lower higher root (nI j)).1, (T_X3_unlink lower higher root (nI j)).2.1, (T_X3_unlink lower higher root (nI j)).2.2, count - 1) := by
  unfold T_X3_drop
  split
  · exact Or.inl rfl
  · rename_i c
    split
    · exact Or.inl rfl
    · rename_i c2
      obtain ⟨j, hj, rfl⟩ := vp_in_of (isSlot_in c) (by omega)
      exact Or.inr ⟨j, hj, rfl, c2, rfl⟩
theorem inv_dropS (slot : Int32) (h : Inv B K T S) : Inv B K T (U_dropS S slot) := by
  obtain ⟨h1, h2, h3, h4, h5, h6, h7, h8, h9, h10, h11, h12, h13, h14⟩ := h
  unfold U_dropS
  rcases drop_spec (z_kinds S) (z_lower S) (z_higher S) (z_root S) (z_count S) slot with e | ⟨j, hj, rfl, h0, e⟩
  · rw [e]
    exact ⟨h1, h2, h3, h4, h5, h6, h7, h8, h9, h10, h11, h12, h13, h14⟩
  · rw [e]
    have hd := pend_drop (L := z_kinds S) (i := nI j) (by rw [nI_clamp (by omega), h2]; exact hj) h0
    refine ⟨KL_wr h1 (Or.inl rfl), by rw [← h2]; exact wr_len _ _ _, h3, PL_drop h4, h5, h6, h7, h8, h9, h10, h11, h12, h13, ?_⟩
    show z_count S - 1 = nI (pend (wr (z_kinds S) (nI j) 0))
    rw [hd.2, h14]
    exact pk_sub (b := 1) hd.1
theorem cancel_eq (S : SH) (c : Int32) : U_cancel S c = (if T_X3_isSlot (T_X3_slotOf (z_ids S) (z_kinds S) c) = 0 then (-1, S) else (z_count (U_dropS S (T_X3_slotOf (z_ids S) (z_kinds S) c)), U_dropS S (T_X3_slotOf (z_ids S) (z_kinds S) c))) := by
  unfold U_cancel T_X6_cancel U_dropS
  dsimp only [tb]
  split
  · rfl
  · rfl
theorem ok_cancel (c : Int32) (h : Inv B K T S) : OkR 1 (Inv B K T) S (U_cancel S c) := by
  rw [cancel_eq]
  split
  · exact OkR_1 rfl
  · have hi := inv_dropS (T_X3_slotOf (z_ids S) (z_kinds S) c) h
    refine Or.inl ⟨?_, hi⟩
    rw [hi.2.2.2.2.2.2.2.2.2.2.2.2.2]
    have : pend (z_kinds (U_dropS S (T_X3_slotOf (z_ids S) (z_kinds S) c))) ≤ 16 := by
      have h9 := pend_le (L := z_kinds (U_dropS S (T_X3_slotOf (z_ids S) (z_kinds S) c)))
      rw [hi.2.1] at h9
      exact h9
    exact nI_pos (by omega)
theorem ok_move (c b : Int32) (h : Inv B K T S) (hT : T < 2 ^ 30) : OkR 2 (Inv B K T) S (U_move S c b) := by
  by_cases c1 : T_X3_isSlot (T_X3_slotOf (z_ids S) (z_kinds S) c) = 0
  · exact OkR_1 (by unfold U_move T_X6_move; rw [if_pos c1])
  by_cases c2 : T_X6_isCueBeat (z_beat S) b = 0
  · exact OkR_2 (by decide) (by unfold U_move T_X6_move; rw [if_neg c1, if_pos c2])
  refine Or.inl ?_
  obtain ⟨h1, h2, h3, h4, h5, h6, h7, h8, h9, h10, h11, h12, h13, h14⟩ := h
  obtain ⟨t, ht, et⟩ := id h13
  obtain ⟨y, hy, -, ey⟩ := beat_bd et (by omega) c2
  have e1 : (U_move S c b).1 = (T_X6_move (z_ids S) (z_kinds S) (z_beats S) (z_lower S) (z_higher S) (z_root S) (z_beat S) c b).1 := rfl
  have e2 : z_beats (U_move S c b).2 = (T_X6_move (z_ids S) (z_kinds S) (z_beats S) (z_lower S) (z_higher S) (z_root S) (z_beat S) c b).2.1 := rfl
  generalize hr : T_X3_shift (z_ids S) (z_beats S) (z_lower S) (z_higher S) (z_root S) (T_X3_slotOf (z_ids S) (z_kinds S) c) b = r
  have e : T_X6_move (z_ids S) (z_kinds S) (z_beats S) (z_lower S) (z_higher S) (z_root S) (z_beat S) c b = (rd (z_beats S) (T_X3_slotOf (z_ids S) (z_kinds S) c), r.1, r.2.1, r.2.2.1, r.2.2.2) := by
    unfold T_X6_move
    rw [if_neg c1, if_neg c2, hr]
    rfl
  rw [e] at e1 e2
  refine ⟨by rw [e1]; exact Bd_nn (h7 _) (by omega), h1, h2, h3, h4, h5, h6, ?_, h8, h9, h10, h11, h12, h13, h14⟩
  rw [e2, ← hr]
  unfold T_X3_shift
  rw [if_neg c1]
  exact BL_wr h7 ⟨y, hy, ey⟩
theorem ok_limit (l : Int32) (h : Inv B K T S) : OkR 1 (Inv B K T) S (U_limitNoise S l) := by
  by_cases c1 : l < 0
  · exact OkR_1 (by unfold U_limitNoise T_X6_limitNoise; rw [if_pos c1])
  by_cases c2 : l ≤ 30
  · refine Or.inl ?_
    obtain ⟨h1, h2, h3, h4, h5, h6, h7, h8, h9, h10, h11, h12, h13, h14⟩ := h
    have e1 : (U_limitNoise S l).1 = (T_X6_limitNoise (z_lim S) l).1 := rfl
    have e2 : z_lim (U_limitNoise S l).2 = (T_X6_limitNoise (z_lim S) l).2 := rfl
    have e : T_X6_limitNoise (z_lim S) l = (z_lim S, l) := by unfold T_X6_limitNoise; rw [if_neg c1, if_pos c2]
    rw [e] at e1 e2
    exact ⟨by rw [e1]; exact Bd_nn h11 (by omega), h1, h2, h3, h4, h5, h6, h7, h8, h9, h10, by rw [e2]; exact Bd_of (M := 30) (by decide) c1 c2, h12, h13, h14⟩
  · exact OkR_1 (by unfold U_limitNoise T_X6_limitNoise; rw [if_neg c1, if_neg c2])
theorem ok_openAct (h : Inv B K T S) : OkR 1 (Inv B K T) S (U_openAct S) := by
  by_cases c : z_act S < 3
  · refine Or.inl ?_
    obtain ⟨h1, h2, h3, h4, h5, h6, h7, h8, h9, h10, h11, ⟨n, hn, en⟩, h13, h14⟩ := h
    have e1 : (U_openAct S).1 = (T_X6_openAct (z_mends S) (z_act S) (z_hend S)).1 := rfl
    have e2 : z_act (U_openAct S).2 = (T_X6_openAct (z_mends S) (z_act S) (z_hend S)).2.2.1 := rfl
    have e : T_X6_openAct (z_mends S) (z_act S) (z_hend S) = (z_act S + 1, List.replicate 6 (-1), z_act S + 1, -1) := by unfold T_X6_openAct; rw [if_pos c]
    rw [e, en] at e1 e2
    rw [en] at c
    have h3' : n < 3 := by
      rcases Nat.lt_or_ge n 3 with g | g
      · exact g
      · exact absurd c (nI_nlt (a := n) (b := 3) g (by omega))
    refine ⟨?_, h1, h2, h3, h4, h5, h6, h7, h8, h9, h10, h11, ?_, h13, h14⟩
    · rw [e1, nI_1]; exact nI_pos (by omega)
    · rw [e2, nI_1]; exact ⟨n + 1, by omega, rfl⟩
  · exact OkR_1 (by unfold U_openAct T_X6_openAct; rw [if_neg c])
end
/-! beats -/
section
variable {B K T : Nat} {S : SH}
theorem inv_drops {o : List Int32} : ∀ (f i : Nat) (S : SH), Inv B K T S → Inv B K T (U_drops o f i S) := by
  intro f
  induction f with
  | zero => intro i S h; exact h
  | succ f ih => intro i S h; exact ih _ _ (inv_dropS _ h)
theorem BL_props {kinds players sizes od : List Int32} {perf : Int32} (hz : BL sizes 9) : ∀ (f i b : Nat) (o : List Int32) (y : Int32), BL o b → BL (T_X6_dropProps_L37 kinds players sizes od perf f i o y).1 (b + 9 * f) := by
  intro f
  induction f with
  | zero => intro i b o y h; rw [T_X6_dropProps_L37]; exact BL_mono h (by omega)
  | succ f ih =>
    intro i b o y h
    rw [T_X6_dropProps_L37]
    split
    · exact BL_mono (ih _ _ _ _ h) (by omega)
    · exact BL_mono (ih _ (b + 9) _ _ (BL_impose h (hz _))) (by omega)
theorem BL_dropProps {kinds players beats sizes od owed : List Int32} {perf beat lim hend imp due : Int32} (hz : BL sizes 9) (h : BL owed B) (hd : due.toNatClampNeg ≤ 16) : BL (T_X6_dropProps kinds players beats sizes od owed perf beat lim hend imp due).1 (B + 144) := by
  unfold T_X6_dropProps
  split
  · split
    · exact BL_mono h (by omega)
    · exact BL_mono (BL_props hz _ _ _ _ _ h) (by omega)
  · split
    · exact BL_mono h (by omega)
    · exact BL_mono (BL_props hz _ _ _ _ _ h) (by omega)
theorem inv_due {d : Int32 × List Int32} (h : Inv B K T S) (hd : d.1.toNatClampNeg ≤ 16) : Inv (B + 144) K T (U_due S d) := by
  unfold U_due
  refine inv_drops _ _ _ ?_
  obtain ⟨h1, h2, h3, h4, h5, h6, h7, h8, h9, h10, h11, h12, h13, h14⟩ := h
  exact ⟨h1, h2, h3, h4, h5, h6, h7, h8, BL_dropProps h8 h9 hd, h10, h11, h12, h13, h14⟩
theorem inv_last (h : Inv B K T S) : Inv B K T (U_last S) := by
  unfold U_last
  split
  · exact h
  · exact h
theorem inv_happ {v : Int32} (h : Inv B K T S) : Inv B K T (zs_happ S v) := h
theorem inv_mouths (h : Inv B K T S) : Inv B K T (U_closeMouths S) := h
theorem inv_zbeat (h : Inv B K T S) : Inv B K (T + 1) (zs_beat S (z_beat S + 1)) := by
  obtain ⟨h1, h2, h3, h4, h5, h6, h7, h8, h9, h10, h11, h12, ⟨t, ht, et⟩, h14⟩ := h
  refine ⟨h1, h2, h3, h4, h5, h6, h7, h8, h9, h10, h11, h12, ?_, h14⟩
  show Bd (z_beat S + 1) (T + 1)
  rw [et, nI_1]
  exact ⟨t + 1, by omega, rfl⟩
theorem inv_cues (h : Inv B K T S) : Inv (B + 144) K T (U_cues S) := by
  unfold U_cues U_tail
  have hd := (Lst_ok S (z_beat S)).1.2
  generalize Lst S (z_beat S) = d at hd ⊢
  exact inv_last (inv_happ (inv_due h hd))
theorem inv_passBeat (h : Inv B K T S) : Inv (B + 144) K (T + 1) (U_passBeat S) := by
  unfold U_passBeat
  exact inv_cues (inv_mouths (inv_zbeat h))
theorem inv_beats : ∀ (f B T : Nat) (S : SH), Inv B K T S → Inv (B + 144 * f) K (T + f) (U_beats f S) := by
  intro f
  induction f with
  | zero => intro B T S h; exact h
  | succ f ih =>
    intro B T S h
    exact Inv_mono (ih _ _ _ (inv_passBeat h)) (by omega) (Nat.le_refl _) (by omega)
theorem happ_drops {o : List Int32} : ∀ (f i : Nat) (S : SH), z_happ (U_drops o f i S) = z_happ S := by
  intro f
  induction f with
  | zero => intro i S; rfl
  | succ f ih => intro i S; exact (ih _ _).trans rfl
theorem happ_last {S : SH} : z_happ (U_last S) = z_happ S := by
  unfold U_last
  split <;> rfl
theorem happ_due {d : Int32 × List Int32} : z_happ (U_due S d) = z_happ S := by
  unfold U_due
  rw [happ_drops]
  rfl
theorem happ_cues (S : SH) : ∃ m : Nat, m ≤ 16 ∧ z_happ (U_cues S) = z_happ S + nI m := by
  unfold U_cues U_tail
  have hd := (Lst_ok S (z_beat S)).1
  generalize Lst S (z_beat S) = d at hd ⊢
  refine ⟨_, hd.2, ?_⟩
  rw [happ_last, ← hd.1]
  show z_happ (U_due S d) + d.1 = z_happ S + d.1
  rw [happ_due]
theorem happ_mouths {S : SH} : z_happ (U_closeMouths S) = z_happ S := rfl
theorem happ_zbeat {S : SH} {v : Int32} : z_happ (zs_beat S v) = z_happ S := rfl
theorem happ_passBeat (S : SH) : ∃ m : Nat, m ≤ 16 ∧ z_happ (U_passBeat S) = z_happ S + nI m := by
  unfold U_passBeat
  obtain ⟨m, h1, h2⟩ := happ_cues (U_closeMouths (zs_beat S (z_beat S + 1)))
  exact ⟨m, h1, by rw [h2, happ_mouths, happ_zbeat]⟩
theorem happ_beats : ∀ (f : Nat) (S : SH), ∃ m : Nat, m ≤ 16 * f ∧ z_happ (U_beats f S) = z_happ S + nI m := by
  intro f
  induction f with
  | zero => intro S; exact ⟨0, Nat.le_refl _, by rw [nI_0, Int32.add_zero]; rfl⟩
  | succ f ih =>
    intro S
    obtain ⟨m, h1, h2⟩ := ih (U_passBeat S)
    obtain ⟨q, h3, h4⟩ := happ_passBeat S
    refine ⟨q + m, by omega, ?_⟩
    show z_happ (U_beats f (U_passBeat S)) = _
    rw [h2, h4, Int32.add_assoc, nI_add]
theorem ok_pass (b : Int32) {n : Nat} (hb : b ≤ nI n) (hn : n ≤ 40) (h : Inv B K T S) : OkR 1 (Inv (B + 144 * n) K (T + n)) S (U_pass S b) := by
  unfold U_pass
  split
  · exact OkR_1 rfl
  · rename_i c1
    split
    · rename_i c2
      obtain ⟨j, hj, rfl⟩ := nI_of2 (M := nI n) (n := n) (nI_toInt (by omega)) (i1_0 c1) hb
      rw [nI_clamp (by omega)]
      refine Or.inl ⟨?_, Inv_mono (inv_beats j B T S h) (by omega) (Nat.le_refl _) (by omega)⟩
      obtain ⟨m, h1, h2⟩ := happ_beats j S
      show ¬ z_happ (U_beats j S) - z_happ S < 0
      rw [h2, Int32.add_comm, Int32.add_sub_cancel]
      exact nI_pos (by omega)
    · exact OkR_1 rfl
end
