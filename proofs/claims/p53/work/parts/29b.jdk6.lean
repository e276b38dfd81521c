/-! ===== a number at the end of a StringBuilder; the line ===== -/
theorem wr_get {L : List Int32} {p j : Nat} {b : Int32} (hp : p < L.length) (hl : L.length < 2 ^ 31) : (wr L (nI p) b).getD j 0 = if j = p then b else L.getD j 0 := by
  have hc : (nI p).toNatClampNeg = p := nI_clamp (by omega)
  by_cases e : j = p
  · subst e
    rw [if_pos rfl]
    simp [wr, List.getD_eq_getElem?_getD, hc, hp]
  · rw [if_neg e]
    simp [wr, List.getD_eq_getElem?_getD, hc, List.getElem?_set_ne (Ne.symm e)]
/-- d stands in L' from p on, the rest is as in L -/
def PutAt (L L' : List Int32) (p : Nat) (d : List Int32) : Prop := L'.length = L.length ∧ (∀ i, fits .byte (.int (L'.getD i 0)) = true) ∧ (∀ j, j < p → L'.getD j 0 = L.getD j 0) ∧ ∀ i, i < d.length → L'.getD (p + i) 0 = d.getD i 0
theorem dec_bd {n : Nat} (hn : n < 10000) : ∀ i, i < (dec n).length → ∃ b : Nat, b < 128 ∧ (dec n).getD i 0 = nI b := by
  have hx := dec_len hn
  intro i hi
  unfold dec at hi ⊢
  split at hi
  · rename_i c
    rw [if_pos c]
    match i, hi with
    | 0, _ => exact ⟨48 + n, by omega, rfl⟩
  · rename_i c
    rw [if_neg c]
    split at hi
    · rename_i c
      rw [if_pos c]
      match i, hi with
      | 0, _ => exact ⟨48 + n / 10, by omega, rfl⟩
      | 1, _ => exact ⟨48 + n % 10, by omega, rfl⟩
    · rename_i c
      rw [if_neg c]
      split at hi
      · rename_i c
        rw [if_pos c]
        match i, hi with
        | 0, _ => exact ⟨48 + n / 100, by omega, rfl⟩
        | 1, _ => exact ⟨48 + n / 10 % 10, by omega, rfl⟩
        | 2, _ => exact ⟨48 + n % 10, by omega, rfl⟩
      · rename_i c
        rw [if_neg c]
        match i, hi with
        | 0, _ => exact ⟨48 + n / 1000, by omega, rfl⟩
        | 1, _ => exact ⟨48 + n / 100 % 10, by omega, rfl⟩
        | 2, _ => exact ⟨48 + n / 10 % 10, by omega, rfl⟩
        | 3, _ => exact ⟨48 + n % 10, by omega, rfl⟩
theorem putk_1 {L : List Int32} {q n : Nat} (hq : 1 ≤ q) (hq2 : q ≤ L.length) (hb : L.length < 2 ^ 30) (hf : ∀ i, fits .byte (.int (L.getD i 0)) = true) (hn : n < 10000) (hn1 : n < 10) : PutAt L (wr L (nI (q - 1)) (nI (48 + n))) (q - 1) [nI (48 + n)] := by
  refine ⟨by simp only [wr_len], (fitW hf (fit_s _ (by omega))), fun j hj => ?_, fun i hi => ?_⟩
  · rw [wr_get (by (try simp only [wr_len]); omega) (by (try simp only [wr_len]); omega), if_neg (by omega)]
  · match i, hi with
    | 0, _ =>
      rw [wr_get (by (try simp only [wr_len]); omega) (by (try simp only [wr_len]); omega), if_pos (by omega)]
      rfl
theorem putk_2 {L : List Int32} {q n : Nat} (hq : 2 ≤ q) (hq2 : q ≤ L.length) (hb : L.length < 2 ^ 30) (hf : ∀ i, fits .byte (.int (L.getD i 0)) = true) (hn : n < 10000) (hn1 : n < 100) : PutAt L (wr (wr L (nI (q - 1)) (nI (48 + n % 10))) (nI (q - 2)) (nI (48 + n / 10))) (q - 2) [nI (48 + n / 10), nI (48 + n % 10)] := by
  refine ⟨by simp only [wr_len], (fitW (fitW hf (fit_s _ (by omega))) (fit_s _ (by omega))), fun j hj => ?_, fun i hi => ?_⟩
  · rw [wr_get (by (try simp only [wr_len]); omega) (by (try simp only [wr_len]); omega), if_neg (by omega)]
    rw [wr_get (by (try simp only [wr_len]); omega) (by (try simp only [wr_len]); omega), if_neg (by omega)]
  · match i, hi with
    | 0, _ =>
      rw [wr_get (by (try simp only [wr_len]); omega) (by (try simp only [wr_len]); omega), if_pos (by omega)]
      rfl
    | 1, _ =>
      rw [wr_get (by (try simp only [wr_len]); omega) (by (try simp only [wr_len]); omega), if_neg (by omega)]
      rw [wr_get (by (try simp only [wr_len]); omega) (by (try simp only [wr_len]); omega), if_pos (by omega)]
      rfl
theorem putk_3 {L : List Int32} {q n : Nat} (hq : 3 ≤ q) (hq2 : q ≤ L.length) (hb : L.length < 2 ^ 30) (hf : ∀ i, fits .byte (.int (L.getD i 0)) = true) (hn : n < 10000) (hn1 : n < 1000) : PutAt L (wr (wr (wr L (nI (q - 1)) (nI (48 + n % 10))) (nI (q - 2)) (nI (48 + n / 10 % 10))) (nI (q - 3)) (nI (48 + n / 100))) (q - 3) [nI (48 + n / 100), nI (48 + n / 10 % 10), nI (48 + n % 10)] := by
  refine ⟨by simp only [wr_len], (fitW (fitW (fitW hf (fit_s _ (by omega))) (fit_s _ (by omega))) (fit_s _ (by omega))), fun j hj => ?_, fun i hi => ?_⟩
  · rw [wr_get (by (try simp only [wr_len]); omega) (by (try simp only [wr_len]); omega), if_neg (by omega)]
    rw [wr_get (by (try simp only [wr_len]); omega) (by (try simp only [wr_len]); omega), if_neg (by omega)]
    rw [wr_get (by (try simp only [wr_len]); omega) (by (try simp only [wr_len]); omega), if_neg (by omega)]
  · match i, hi with
    | 0, _ =>
      rw [wr_get (by (try simp only [wr_len]); omega) (by (try simp only [wr_len]); omega), if_pos (by omega)]
      rfl
    | 1, _ =>
      rw [wr_get (by (try simp only [wr_len]); omega) (by (try simp only [wr_len]); omega), if_neg (by omega)]
      rw [wr_get (by (try simp only [wr_len]); omega) (by (try simp only [wr_len]); omega), if_pos (by omega)]
      rfl
    | 2, _ =>
      rw [wr_get (by (try simp only [wr_len]); omega) (by (try simp only [wr_len]); omega), if_neg (by omega)]
      rw [wr_get (by (try simp only [wr_len]); omega) (by (try simp only [wr_len]); omega), if_neg (by omega)]
      rw [wr_get (by (try simp only [wr_len]); omega) (by (try simp only [wr_len]); omega), if_pos (by omega)]
      rfl
theorem putk_4 {L : List Int32} {q n : Nat} (hq : 4 ≤ q) (hq2 : q ≤ L.length) (hb : L.length < 2 ^ 30) (hf : ∀ i, fits .byte (.int (L.getD i 0)) = true) (hn : n < 10000) : PutAt L (wr (wr (wr (wr L (nI (q - 1)) (nI (48 + n % 10))) (nI (q - 2)) (nI (48 + n / 10 % 10))) (nI (q - 3)) (nI (48 + n / 100 % 10))) (nI (q - 4)) (nI (48 + n / 1000))) (q - 4) [nI (48 + n / 1000), nI (48 + n / 100 % 10), nI (48 + n / 10 % 10), nI (48 + n % 10)] := by
  refine ⟨by simp only [wr_len], (fitW (fitW (fitW (fitW hf (fit_s _ (by omega))) (fit_s _ (by omega))) (fit_s _ (by omega))) (fit_s _ (by omega))), fun j hj => ?_, fun i hi => ?_⟩
  · rw [wr_get (by (try simp only [wr_len]); omega) (by (try simp only [wr_len]); omega), if_neg (by omega)]
    rw [wr_get (by (try simp only [wr_len]); omega) (by (try simp only [wr_len]); omega), if_neg (by omega)]
    rw [wr_get (by (try simp only [wr_len]); omega) (by (try simp only [wr_len]); omega), if_neg (by omega)]
    rw [wr_get (by (try simp only [wr_len]); omega) (by (try simp only [wr_len]); omega), if_neg (by omega)]
  · match i, hi with
    | 0, _ =>
      rw [wr_get (by (try simp only [wr_len]); omega) (by (try simp only [wr_len]); omega), if_pos (by omega)]
      rfl
    | 1, _ =>
      rw [wr_get (by (try simp only [wr_len]); omega) (by (try simp only [wr_len]); omega), if_neg (by omega)]
      rw [wr_get (by (try simp only [wr_len]); omega) (by (try simp only [wr_len]); omega), if_pos (by omega)]
      rfl
    | 2, _ =>
      rw [wr_get (by (try simp only [wr_len]); omega) (by (try simp only [wr_len]); omega), if_neg (by omega)]
      rw [wr_get (by (try simp only [wr_len]); omega) (by (try simp only [wr_len]); omega), if_neg (by omega)]
      rw [wr_get (by (try simp only [wr_len]); omega) (by (try simp only [wr_len]); omega), if_pos (by omega)]
      rfl
    | 3, _ =>
      rw [wr_get (by (try simp only [wr_len]); omega) (by (try simp only [wr_len]); omega), if_neg (by omega)]
      rw [wr_get (by (try simp only [wr_len]); omega) (by (try simp only [wr_len]); omega), if_neg (by omega)]
      rw [wr_get (by (try simp only [wr_len]); omega) (by (try simp only [wr_len]); omega), if_neg (by omega)]
      rw [wr_get (by (try simp only [wr_len]); omega) (by (try simp only [wr_len]); omega), if_pos (by omega)]
      rfl
set_option maxHeartbeats 1000000 in
theorem c_chars {X : KX} (hxs : X.1.stackTraces = false) (hg : GX X) {h : AH} {v n q : Nat} {L : List Int32} (hL : h.2 v = some (aL (kA X 2) L)) (hn : n < 10000) (hq : (dec n).length ≤ q) (hq2 : q ≤ L.length) (hb : L.length < 2 ^ 30) (hf : ∀ i, fits .byte (.int (L.getD i 0)) = true) : Ct X mJ6_getChars_ba4f3 [.int (nI n), .int (nI q), .ref v] h (zM (some (.int (nI (q - (dec n).length)))) (fun h' => ∃ L', h' = hput h v (aL (kA X 2) L') ∧ PutAt L L' (q - (dec n).length) (dec n))) := by
  unfold dec at hq ⊢
  by_cases h1 : n < 10
  · rw [if_pos h1] at hq ⊢
    exact (c_chars1 hxs hg hL hn (by omega) h1 hq hq2 hb).weak (fun o h' hz => ⟨hz.1, _, hz.2, putk_1 hq hq2 hb hf hn h1⟩)
  · rw [if_neg h1] at hq ⊢
    by_cases h2 : n < 100
    · rw [if_pos h2] at hq ⊢
      exact (c_chars2 hxs hg hL hn (by omega) h2 hq hq2 hb).weak (fun o h' hz => ⟨hz.1, _, hz.2, putk_2 hq hq2 hb hf hn h2⟩)
    · rw [if_neg h2] at hq ⊢
      by_cases h3 : n < 1000
      · rw [if_pos h3] at hq ⊢
        exact (c_chars3 hxs hg hL hn (by omega) h3 hq hq2 hb).weak (fun o h' hz => ⟨hz.1, _, hz.2, putk_3 hq hq2 hb hf hn h3⟩)
      · rw [if_neg h3] at hq ⊢
        exact (c_chars4 hxs hg hL hn (by omega) hn hq hq2 hb).weak (fun o h' hz => ⟨hz.1, _, hz.2, putk_4 hq hq2 hb hf hn⟩)
set_option maxRecDepth 20000 in
set_option maxHeartbeats 1000000 in
theorem c_J5_appI {X : KX} (hxs : X.1.stackTraces = false) (hg : GX X) {h : AH} {a v : Nat} {L : List Int32} {ml : Int32} {n m : Nat} (hS : SbV X h a v L ml (nI n)) (hm : m < 10000) (hn : n + (dec m).length ≤ L.length) : Ct X mJ5_append_c97b9 [.ref a, .int (nI m)] h (zM (some (.ref a)) (fun h' => ∃ L', SbV X h' a v L' ml (nI (n + (dec m).length)) ∧ PutAt L L' n (dec m) ∧ FrS h h' a v)) := by
  have hl9 := hS.2.2.2.2.2.1
  refine Ct.of (by decide) rfl (Nat.le_of_ble_eq_true rfl) rfl hxs ?_
  refine V_aload_n dJ5_append_c97b9_0 0 rfl ?_
  refine gf_sb_count hS.1 dJ5_append_c97b9_1 flJ5_79 ?_
  refine V_istore_n (lv' := [(2, .int (nI n)), (0, .ref a), (1, .int (nI m))]) dJ5_append_c97b9_4 rfl (by decide) rfl ?_
  refine V_iload_n dJ5_append_c97b9_5 0 rfl ?_
  refine V_iload_n dJ5_append_c97b9_6 2 rfl ?_
  refine V_cSi (As := [.int (nI m)]) (rest := [.int (nI n)]) dJ5_append_c97b9_7 cvJ5_245 (c_size hxs hm) ⟨Nat.le_of_ble_eq_true rfl, Nat.le_of_ble_eq_true rfl, Nat.le_of_ble_eq_true rfl, Nat.le_of_ble_eq_true rfl⟩ (Nat.le_of_ble_eq_true rfl) rfl ?_
  refine V_iadd dJ5_append_c97b9_10 ?_
  rw [nI_add]
  refine V_istore_n (lv' := [(3, .int (nI (n + (dec m).length))), (2, .int (nI n)), (0, .ref a), (1, .int (nI m))]) dJ5_append_c97b9_11 rfl (by decide) rfl ?_
  refine V_aload_n dJ5_append_c97b9_12 2 rfl ?_
  refine V_iload_n dJ5_append_c97b9_13 0 rfl ?_
  refine V_cVp hg.p (As := [.int (nI (n + (dec m).length))]) (rest := []) (v := none) (Q := fun h1 => h1 = h) dJ5_append_c97b9_14 cpJ5_100 (c_ens0 hxs hg hS.1 hS.2.1 hn (by omega)) hS.1 rfl ⟨Nat.le_of_ble_eq_true rfl, Nat.le_of_ble_eq_true rfl, Nat.le_of_ble_eq_true rfl, Nat.le_of_ble_eq_true rfl⟩ (Nat.le_of_ble_eq_true rfl) rfl (fun h1 e1 => ?_)
  subst e1
  refine V_aload_n dJ5_append_c97b9_17 2 rfl ?_
  refine V_cVg (As := []) (rest := []) dJ5_append_c97b9_18 cuJ5_83 (Q := _) (c_J5_isLatin1_aae02 hxs hg hS.1) hS.1 rfl ⟨Nat.le_of_ble_eq_true rfl, Nat.le_of_ble_eq_true rfl, Nat.le_of_ble_eq_true rfl, Nat.le_of_ble_eq_true rfl⟩ (Nat.le_of_ble_eq_true rfl) rfl (fun h2 e2 => ?_)
  subst e2
  refine V_if_eq (tgt := 37) dJ5_append_c97b9_21 (by decide) (fun c9 => absurd c9 (by decide)) (fun _ => ?_)
  refine V_iload_n dJ5_append_c97b9_24 3 rfl ?_
  refine V_iload_n dJ5_append_c97b9_25 0 rfl ?_
  refine V_aload_n dJ5_append_c97b9_26 2 rfl ?_
  refine gf_sb_value hS.1 dJ5_append_c97b9_27 flJ5_15 ?_
  refine V_cSg (As := [.int (nI m), .int (nI (n + (dec m).length)), .ref v]) (rest := []) dJ5_append_c97b9_30 cvJ5_248 (c_chars hxs hg hS.2.1 hm (q := n + (dec m).length) (by omega) hn (by omega) hS.2.2.2.2.2.2) ⟨Nat.le_of_ble_eq_true rfl, Nat.le_of_ble_eq_true rfl, Nat.le_of_ble_eq_true rfl, Nat.le_of_ble_eq_true rfl⟩ (Nat.le_of_ble_eq_true rfl) rfl (fun h3 q3 => ?_)
  obtain ⟨L', e3, hP⟩ := q3
  subst e3
  rw [Nat.add_sub_cancel] at hP
  refine V_pop dJ5_append_c97b9_33 rfl ?_
  refine V_goto (tgt := 48) dJ5_append_c97b9_34 (by decide) ?_
  refine V_aload_n dJ5_append_c97b9_48 2 rfl ?_
  refine V_iload_n dJ5_append_c97b9_49 0 rfl ?_
  refine pf_sb_count (show SbO (hput _ v (aL (kA X 2) L')) a v ml (nI n) from (hput_ne hS.2.2.1).trans hS.1) dJ5_append_c97b9_50 flJ5_79 (fun h4 hS4 hF4 hz4 hk4 => ?_)
  refine V_aload_n dJ5_append_c97b9_53 2 rfl ?_
  exact V_aret dJ5_append_c97b9_54 rfl (Or.inl ⟨_, rfl⟩) ⟨Nat.le_of_ble_eq_true rfl, Nat.le_of_ble_eq_true rfl⟩ ⟨rfl, L', ⟨hS4, (hk4 v (Ne.symm hS.2.2.1)).trans hput_at, hS.2.2.1, by rw [hz4]; exact hS.2.2.2.1, by rw [hz4]; exact hS.2.2.2.2.1, by rw [hP.1]; exact hS.2.2.2.2.2.1, hP.2.1⟩, hP, FrS.tr (FrS.put (Or.inr rfl)) hF4 (Or.inl rfl)⟩
set_option maxRecDepth 20000 in
set_option maxHeartbeats 1000000 in
theorem c_appI {X : KX} (hxs : X.1.stackTraces = false) (hg : GX X) {h : AH} {a v : Nat} {L : List Int32} {ml : Int32} {n m : Nat} (hS : SbV X h a v L ml (nI n)) (hm : m < 10000) (hn : n + (dec m).length ≤ L.length) : Ct X mJ4_append_bf812 [.ref a, .int (nI m)] h (zM (some (.ref a)) (fun h' => ∃ L', SbV X h' a v L' ml (nI (n + (dec m).length)) ∧ PutAt L L' n (dec m) ∧ FrS h h' a v)) := by
  refine Ct.of (by decide) rfl (Nat.le_of_ble_eq_true rfl) rfl hxs ?_
  refine V_aload_n dJ4_append_bf812_0 0 rfl ?_
  refine V_iload_n dJ4_append_bf812_1 1 rfl ?_
  refine V_cSU (As := [.int (nI m)]) (rest := []) dJ4_append_bf812_2 csJ4_53 (c_J5_appI hxs hg hS hm hn) hS.1 rfl ⟨Nat.le_of_ble_eq_true rfl, Nat.le_of_ble_eq_true rfl, Nat.le_of_ble_eq_true rfl, Nat.le_of_ble_eq_true rfl⟩ (Nat.le_of_ble_eq_true rfl) rfl (fun h1 q1 => ?_)
  refine V_pop dJ4_append_bf812_5 rfl ?_
  refine V_aload_n dJ4_append_bf812_6 0 rfl ?_
  exact V_aret dJ4_append_bf812_7 rfl (Or.inl ⟨_, rfl⟩) ⟨Nat.le_of_ble_eq_true rfl, Nat.le_of_ble_eq_true rfl⟩ ⟨rfl, q1⟩
theorem Txt.app {L L' t : List Int32} {b : Nat} (hT : Txt L t) (hb : b < 128) (hl : t.length + 1 ≤ L'.length) (hk : ∀ j, j < t.length → L'.getD j 0 = L.getD j 0) (hn : L'.getD t.length 0 = nI b) : Txt L' (t ++ [nI b]) := by
  have e1 : ∀ i, i < t.length → (t ++ [nI b]).getD i 0 = t.getD i 0 := fun i hi => by simp [List.getD_eq_getElem?_getD, List.getElem?_append_left hi]
  have e2 : (t ++ [nI b]).getD t.length 0 = nI b := by simp [List.getD_eq_getElem?_getD]
  refine ⟨by simpa using hl, fun i hi => ?_, fun i hi => ?_⟩
  · rcases Nat.lt_or_ge i t.length with g | g
    · rw [e1 i g, hk i g, hT.2.1 i g]
    · have e : i = t.length := by simp at hi; omega
      rw [e, e2, hn]
  · rcases Nat.lt_or_ge i t.length with g | g
    · rw [e1 i g]; exact hT.2.2 i g
    · have e : i = t.length := by simp at hi; omega
      rw [e, e2]; exact ⟨b, hb, rfl⟩
theorem Txt.put {L L' t d : List Int32} (hT : Txt L t) (hP : PutAt L L' t.length d) (hl : t.length + d.length ≤ L.length) (hd : ∀ i, i < d.length → ∃ b : Nat, b < 128 ∧ d.getD i 0 = nI b) : Txt L' (t ++ d) := by
  have e1 : ∀ i, i < t.length → (t ++ d).getD i 0 = t.getD i 0 := fun i hi => by simp [List.getD_eq_getElem?_getD, List.getElem?_append_left hi]
  have e2 : ∀ i, t.length ≤ i → (t ++ d).getD i 0 = d.getD (i - t.length) 0 := fun i hi => by simp [List.getD_eq_getElem?_getD, List.getElem?_append_right hi]
  refine ⟨by rw [List.length_append, hP.1]; exact hl, fun i hi => ?_, fun i hi => ?_⟩
  · rw [List.length_append] at hi
    rcases Nat.lt_or_ge i t.length with g | g
    · rw [e1 i g, hP.2.2.1 i g, hT.2.1 i g]
    · have := hP.2.2.2 (i - t.length) (by omega)
      rw [show t.length + (i - t.length) = i by omega] at this
      rw [e2 i g, this]
  · rw [List.length_append] at hi
    rcases Nat.lt_or_ge i t.length with g | g
    · rw [e1 i g]; exact hT.2.2 i g
    · rw [e2 i g]; exact hd _ (by omega)
theorem l_appC {X : KX} (hxs : X.1.stackTraces = false) (hg : GX X) {h : AH} {a : Nat} {ln : List Int32} (hL : LnAt X h a ln) {b : Nat} (hb : b < 128) (hn : ln.length < 16) : Ct X mJ4_append_cf468 [.ref a, .int (nI b)] h (zM (some (.ref a)) (fun h' => LnAt X h' a (ln ++ [nI b]) ∧ FrS h h' a (a + 1))) := by
  obtain ⟨L, ml, hS, h16, hT⟩ := hL
  refine (c_appC hxs hg hS hb hT.1 (by unfold capN; rw [if_pos (by omega)]; omega)).weak (fun o h' hz => ⟨hz.1, ?_⟩)
  obtain ⟨v', L', q1, q2, q3, q4, q5, q6, q7⟩ := hz.2
  rcases q7 with ⟨rfl, -⟩ | ⟨-, q8⟩
  · unfold capN at q2
    rw [if_pos (by omega)] at q2
    exact ⟨⟨L', ml, by rw [List.length_append]; exact q1, by omega, hT.app hb q3 q4 q5⟩, q6⟩
  · omega
theorem l_appI {X : KX} (hxs : X.1.stackTraces = false) (hg : GX X) {h : AH} {a : Nat} {ln : List Int32} (hL : LnAt X h a ln) {m : Nat} (hm : m < 10000) (hn : ln.length + (dec m).length ≤ 16) : Ct X mJ4_append_bf812 [.ref a, .int (nI m)] h (zM (some (.ref a)) (fun h' => LnAt X h' a (ln ++ dec m) ∧ FrS h h' a (a + 1))) := by
  obtain ⟨L, ml, hS, h16, hT⟩ := hL
  refine (c_appI hxs hg hS hm (by omega)).weak (fun o h' hz => ⟨hz.1, ?_⟩)
  obtain ⟨L', q1, q2, q3⟩ := hz.2
  exact ⟨⟨L', ml, by rw [List.length_append]; exact q1, by rw [q2.1]; exact h16, hT.put q2 (by omega) (dec_bd hm)⟩, q3⟩
theorem l_len0 {X : KX} (hxs : X.1.stackTraces = false) (hg : GX X) {h : AH} {a : Nat} {ln : List Int32} (hL : LnAt X h a ln) : Ct X mJ4_setLength_d00df [.ref a, .int 0] h (zM none (fun h' => LnAt X h' a [] ∧ FrS h h' a (a + 1))) := by
  obtain ⟨L, ml, hS, h16, hT⟩ := hL
  refine (c_setLen0 hxs hg hS (by have := hT.1; omega)).weak (fun o h' hz => ⟨hz.1, ?_⟩)
  obtain ⟨ml', q1, q2, q3⟩ := hz.2
  exact ⟨⟨L, ml', q1, h16, ⟨Nat.zero_le _, fun i hi => absurd hi (Nat.not_lt_zero _), fun i hi => absurd hi (Nat.not_lt_zero _)⟩⟩, by rw [q2]; exact Nat.le_refl _, fun q c _ _ => q3 q c⟩
