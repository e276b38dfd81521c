/-! ===== a number below 10000 into letters ===== -/
theorem dec1 {m : Nat} (h : 1 ≤ m) : nI m + Int32.ofInt (-1) = nI (m - 1) := by
  obtain ⟨j, rfl⟩ : ∃ j, m = j + 1 := ⟨m - 1, by omega⟩
  rw [← nI_1]
  show nI j + 1 + (-1) = nI j
  rw [Int32.add_assoc, show (1 + (-1) : Int32) = 0 from by decide, Int32.add_zero]
def dec (n : Nat) : List Int32 := if n < 10 then [nI (48 + n)] else if n < 100 then [nI (48 + n / 10), nI (48 + n % 10)] else if n < 1000 then [nI (48 + n / 100), nI (48 + n / 10 % 10), nI (48 + n % 10)] else [nI (48 + n / 1000), nI (48 + n / 100 % 10), nI (48 + n / 10 % 10), nI (48 + n % 10)]
theorem ng10' : ∀ a, a < 100 → ∀ b, b < 100 → (10 ≤ (100 * a + b) → -(nI (100 * a + b)) ≤ (-10)) ∧ ((100 * a + b) < 10 → ¬ -(nI (100 * a + b)) ≤ (-10)) ∧ (100 ≤ (100 * a + b) → -(nI (100 * a + b)) ≤ (-100)) ∧ ((100 * a + b) < 100 → ¬ -(nI (100 * a + b)) ≤ (-100)) := by decide +kernel
theorem ng10 (n : Nat) (hn : n < 10000) : (10 ≤ n → -(nI n) ≤ (-10)) ∧ (n < 10 → ¬ -(nI n) ≤ (-10)) ∧ (100 ≤ n → -(nI n) ≤ (-100)) ∧ (n < 100 → ¬ -(nI n) ≤ (-100)) := by
  have h := ng10' (n / 100) (by omega) (n % 100) (by omega)
  rw [Nat.div_add_mod] at h
  exact h
theorem ng1000' : ∀ a, a < 100 → ∀ b, b < 100 → (1000 ≤ (100 * a + b) → -(nI (100 * a + b)) ≤ (-1000)) ∧ ((100 * a + b) < 1000 → ¬ -(nI (100 * a + b)) ≤ (-1000)) ∧ ¬ -(nI (100 * a + b)) ≤ (-10000) ∧ (10 ≤ (100 * a + b) → -(nI (100 * a + b)) < (-9)) ∧ ((100 * a + b) < 10 → ¬ -(nI (100 * a + b)) < (-9)) := by decide +kernel
theorem ng1000 (n : Nat) (hn : n < 10000) : (1000 ≤ n → -(nI n) ≤ (-1000)) ∧ (n < 1000 → ¬ -(nI n) ≤ (-1000)) ∧ ¬ -(nI n) ≤ (-10000) ∧ (10 ≤ n → -(nI n) < (-9)) ∧ (n < 10 → ¬ -(nI n) < (-9)) := by
  have h := ng1000' (n / 100) (by omega) (n % 100) (by omega)
  rw [Nat.div_add_mod] at h
  exact h
theorem ng_div' : ∀ a, a < 100 → ∀ b, b < 100 → -(nI (100 * a + b)) / 100 = -(nI ((100 * a + b) / 100)) ∧ -(nI ((100 * a + b) / 100)) * 100 - -(nI (100 * a + b)) = nI ((100 * a + b) % 100) ∧ - -(nI (100 * a + b)) = nI (100 * a + b) := by decide +kernel
theorem ng_div (n : Nat) (hn : n < 10000) : -(nI n) / 100 = -(nI (n / 100)) ∧ -(nI (n / 100)) * 100 - -(nI n) = nI (n % 100) ∧ - -(nI n) = nI n := by
  have h := ng_div' (n / 100) (by omega) (n % 100) (by omega)
  rw [Nat.div_add_mod] at h
  exact h
set_option maxRecDepth 20000 in
set_option maxHeartbeats 1000000 in
theorem c_size1 {X : KX} (hxs : X.1.stackTraces = false) {h : AH} {n : Nat} (hn : n < 10000) (hlo : 0 ≤ n) (hhi : n < 10) : Ct X mJ6_stringSize_0f7a4 [.int (nI n)] h (zR (some (.int 1)) h) := by
  refine Ct.of (by decide) rfl (Nat.le_of_ble_eq_true rfl) rfl hxs ?_
  refine V_iconst (v := 1) dJ6_stringSize_0f7a4_0 (by decide) ?_
  refine V_istore_n (lv' := [(1, .int 1), (0, .int (nI n))]) dJ6_stringSize_0f7a4_1 rfl (by decide) rfl ?_
  refine V_iload_n dJ6_stringSize_0f7a4_2 1 rfl ?_
  refine V_if_lt (tgt := 11) dJ6_stringSize_0f7a4_3 (by decide) (fun c9 => absurd c9 (nI_pos (by omega))) (fun _ => ?_)
  refine V_iconst (v := 0) dJ6_stringSize_0f7a4_6 (by decide) ?_
  refine V_istore_n (lv' := [(1, .int 0), (0, .int (nI n))]) dJ6_stringSize_0f7a4_7 rfl (by decide) rfl ?_
  refine V_iload_n dJ6_stringSize_0f7a4_8 1 rfl ?_
  refine V_ineg dJ6_stringSize_0f7a4_9 ?_
  refine V_istore_n (lv' := [(0, .int (-(nI n))), (1, .int 0)]) dJ6_stringSize_0f7a4_10 rfl (by decide) rfl ?_
  refine V_bipush (v := (-10)) dJ6_stringSize_0f7a4_11 (by decide) ?_
  refine V_istore_n (lv' := [(2, .int (-10)), (0, .int (-(nI n))), (1, .int 0)]) dJ6_stringSize_0f7a4_13 rfl (by decide) rfl ?_
  refine V_iconst (v := 1) dJ6_stringSize_0f7a4_14 (by decide) ?_
  refine V_istore_n (lv' := [(3, .int 1), (2, .int (-10)), (0, .int (-(nI n))), (1, .int 0)]) dJ6_stringSize_0f7a4_15 rfl (by decide) rfl ?_
  refine V_iload_n dJ6_stringSize_0f7a4_16 0 rfl ?_
  refine V_bipush (v := 10) dJ6_stringSize_0f7a4_17 (by decide) ?_
  refine V_icmp_ge (tgt := 42) dJ6_stringSize_0f7a4_19 (by decide) (fun c9 => absurd c9 (by decide)) (fun _ => ?_)
  refine V_iload_n dJ6_stringSize_0f7a4_22 2 rfl ?_
  refine V_iload_n dJ6_stringSize_0f7a4_23 1 rfl ?_
  refine V_icmp_le (tgt := 31) dJ6_stringSize_0f7a4_24 (by decide) (fun c9 => absurd c9 ((ng10 n hn).2.1 (by omega))) (fun _ => ?_)
  refine V_iload_n dJ6_stringSize_0f7a4_27 0 rfl ?_
  refine V_iload_n dJ6_stringSize_0f7a4_28 3 rfl ?_
  refine V_iadd dJ6_stringSize_0f7a4_29 ?_
  exact V_iret dJ6_stringSize_0f7a4_30 rfl ⟨Nat.le_of_ble_eq_true rfl, Nat.le_of_ble_eq_true rfl⟩ ⟨by rw [show (1 + 0 : Int32) = 1 from by decide], rfl⟩
set_option maxRecDepth 20000 in
set_option maxHeartbeats 1000000 in
theorem c_size2 {X : KX} (hxs : X.1.stackTraces = false) {h : AH} {n : Nat} (hn : n < 10000) (hlo : 10 ≤ n) (hhi : n < 100) : Ct X mJ6_stringSize_0f7a4 [.int (nI n)] h (zR (some (.int 2)) h) := by
  refine Ct.of (by decide) rfl (Nat.le_of_ble_eq_true rfl) rfl hxs ?_
  refine V_iconst (v := 1) dJ6_stringSize_0f7a4_0 (by decide) ?_
  refine V_istore_n (lv' := [(1, .int 1), (0, .int (nI n))]) dJ6_stringSize_0f7a4_1 rfl (by decide) rfl ?_
  refine V_iload_n dJ6_stringSize_0f7a4_2 1 rfl ?_
  refine V_if_lt (tgt := 11) dJ6_stringSize_0f7a4_3 (by decide) (fun c9 => absurd c9 (nI_pos (by omega))) (fun _ => ?_)
  refine V_iconst (v := 0) dJ6_stringSize_0f7a4_6 (by decide) ?_
  refine V_istore_n (lv' := [(1, .int 0), (0, .int (nI n))]) dJ6_stringSize_0f7a4_7 rfl (by decide) rfl ?_
  refine V_iload_n dJ6_stringSize_0f7a4_8 1 rfl ?_
  refine V_ineg dJ6_stringSize_0f7a4_9 ?_
  refine V_istore_n (lv' := [(0, .int (-(nI n))), (1, .int 0)]) dJ6_stringSize_0f7a4_10 rfl (by decide) rfl ?_
  refine V_bipush (v := (-10)) dJ6_stringSize_0f7a4_11 (by decide) ?_
  refine V_istore_n (lv' := [(2, .int (-10)), (0, .int (-(nI n))), (1, .int 0)]) dJ6_stringSize_0f7a4_13 rfl (by decide) rfl ?_
  refine V_iconst (v := 1) dJ6_stringSize_0f7a4_14 (by decide) ?_
  refine V_istore_n (lv' := [(3, .int 1), (2, .int (-10)), (0, .int (-(nI n))), (1, .int 0)]) dJ6_stringSize_0f7a4_15 rfl (by decide) rfl ?_
  refine V_iload_n dJ6_stringSize_0f7a4_16 0 rfl ?_
  refine V_bipush (v := 10) dJ6_stringSize_0f7a4_17 (by decide) ?_
  refine V_icmp_ge (tgt := 42) dJ6_stringSize_0f7a4_19 (by decide) (fun c9 => absurd c9 (by decide)) (fun _ => ?_)
  refine V_iload_n dJ6_stringSize_0f7a4_22 2 rfl ?_
  refine V_iload_n dJ6_stringSize_0f7a4_23 1 rfl ?_
  refine V_icmp_le (tgt := 31) dJ6_stringSize_0f7a4_24 (by decide) (fun _ => ?_) (fun c9 => absurd ((ng10 n hn).1 (by omega)) c9)
  refine V_bipush (v := 10) dJ6_stringSize_0f7a4_31 (by decide) ?_
  refine V_iload_n dJ6_stringSize_0f7a4_33 1 rfl ?_
  refine V_imul dJ6_stringSize_0f7a4_34 ?_
  rw [show (10 * (-10) : Int32) = (-100) from by decide]
  refine V_istore_n (lv' := [(2, .int (-100)), (3, .int 1), (0, .int (-(nI n))), (1, .int 0)]) dJ6_stringSize_0f7a4_35 rfl (by decide) rfl ?_
  refine V_iinc (v := 2) (lv' := [(3, .int 2), (2, .int (-100)), (0, .int (-(nI n))), (1, .int 0)]) dJ6_stringSize_0f7a4_36 1 rfl (by decide) (by decide) rfl ?_
  refine V_goto (tgt := 16) dJ6_stringSize_0f7a4_39 (by decide) ?_
  refine V_iload_n dJ6_stringSize_0f7a4_16 0 rfl ?_
  refine V_bipush (v := 10) dJ6_stringSize_0f7a4_17 (by decide) ?_
  refine V_icmp_ge (tgt := 42) dJ6_stringSize_0f7a4_19 (by decide) (fun c9 => absurd c9 (by decide)) (fun _ => ?_)
  refine V_iload_n dJ6_stringSize_0f7a4_22 2 rfl ?_
  refine V_iload_n dJ6_stringSize_0f7a4_23 1 rfl ?_
  refine V_icmp_le (tgt := 31) dJ6_stringSize_0f7a4_24 (by decide) (fun c9 => absurd c9 ((ng10 n hn).2.2.2 (by omega))) (fun _ => ?_)
  refine V_iload_n dJ6_stringSize_0f7a4_27 0 rfl ?_
  refine V_iload_n dJ6_stringSize_0f7a4_28 3 rfl ?_
  refine V_iadd dJ6_stringSize_0f7a4_29 ?_
  exact V_iret dJ6_stringSize_0f7a4_30 rfl ⟨Nat.le_of_ble_eq_true rfl, Nat.le_of_ble_eq_true rfl⟩ ⟨by rw [show (2 + 0 : Int32) = 2 from by decide], rfl⟩
set_option maxRecDepth 20000 in
set_option maxHeartbeats 1000000 in
theorem c_size3 {X : KX} (hxs : X.1.stackTraces = false) {h : AH} {n : Nat} (hn : n < 10000) (hlo : 100 ≤ n) (hhi : n < 1000) : Ct X mJ6_stringSize_0f7a4 [.int (nI n)] h (zR (some (.int 3)) h) := by
  refine Ct.of (by decide) rfl (Nat.le_of_ble_eq_true rfl) rfl hxs ?_
  refine V_iconst (v := 1) dJ6_stringSize_0f7a4_0 (by decide) ?_
  refine V_istore_n (lv' := [(1, .int 1), (0, .int (nI n))]) dJ6_stringSize_0f7a4_1 rfl (by decide) rfl ?_
  refine V_iload_n dJ6_stringSize_0f7a4_2 1 rfl ?_
  refine V_if_lt (tgt := 11) dJ6_stringSize_0f7a4_3 (by decide) (fun c9 => absurd c9 (nI_pos (by omega))) (fun _ => ?_)
  refine V_iconst (v := 0) dJ6_stringSize_0f7a4_6 (by decide) ?_
  refine V_istore_n (lv' := [(1, .int 0), (0, .int (nI n))]) dJ6_stringSize_0f7a4_7 rfl (by decide) rfl ?_
  refine V_iload_n dJ6_stringSize_0f7a4_8 1 rfl ?_
  refine V_ineg dJ6_stringSize_0f7a4_9 ?_
  refine V_istore_n (lv' := [(0, .int (-(nI n))), (1, .int 0)]) dJ6_stringSize_0f7a4_10 rfl (by decide) rfl ?_
  refine V_bipush (v := (-10)) dJ6_stringSize_0f7a4_11 (by decide) ?_
  refine V_istore_n (lv' := [(2, .int (-10)), (0, .int (-(nI n))), (1, .int 0)]) dJ6_stringSize_0f7a4_13 rfl (by decide) rfl ?_
  refine V_iconst (v := 1) dJ6_stringSize_0f7a4_14 (by decide) ?_
  refine V_istore_n (lv' := [(3, .int 1), (2, .int (-10)), (0, .int (-(nI n))), (1, .int 0)]) dJ6_stringSize_0f7a4_15 rfl (by decide) rfl ?_
  refine V_iload_n dJ6_stringSize_0f7a4_16 0 rfl ?_
  refine V_bipush (v := 10) dJ6_stringSize_0f7a4_17 (by decide) ?_
  refine V_icmp_ge (tgt := 42) dJ6_stringSize_0f7a4_19 (by decide) (fun c9 => absurd c9 (by decide)) (fun _ => ?_)
  refine V_iload_n dJ6_stringSize_0f7a4_22 2 rfl ?_
  refine V_iload_n dJ6_stringSize_0f7a4_23 1 rfl ?_
  refine V_icmp_le (tgt := 31) dJ6_stringSize_0f7a4_24 (by decide) (fun _ => ?_) (fun c9 => absurd ((ng10 n hn).1 (by omega)) c9)
  refine V_bipush (v := 10) dJ6_stringSize_0f7a4_31 (by decide) ?_
  refine V_iload_n dJ6_stringSize_0f7a4_33 1 rfl ?_
  refine V_imul dJ6_stringSize_0f7a4_34 ?_
  rw [show (10 * (-10) : Int32) = (-100) from by decide]
  refine V_istore_n (lv' := [(2, .int (-100)), (3, .int 1), (0, .int (-(nI n))), (1, .int 0)]) dJ6_stringSize_0f7a4_35 rfl (by decide) rfl ?_
  refine V_iinc (v := 2) (lv' := [(3, .int 2), (2, .int (-100)), (0, .int (-(nI n))), (1, .int 0)]) dJ6_stringSize_0f7a4_36 1 rfl (by decide) (by decide) rfl ?_
  refine V_goto (tgt := 16) dJ6_stringSize_0f7a4_39 (by decide) ?_
  refine V_iload_n dJ6_stringSize_0f7a4_16 0 rfl ?_
  refine V_bipush (v := 10) dJ6_stringSize_0f7a4_17 (by decide) ?_
  refine V_icmp_ge (tgt := 42) dJ6_stringSize_0f7a4_19 (by decide) (fun c9 => absurd c9 (by decide)) (fun _ => ?_)
  refine V_iload_n dJ6_stringSize_0f7a4_22 2 rfl ?_
  refine V_iload_n dJ6_stringSize_0f7a4_23 1 rfl ?_
  refine V_icmp_le (tgt := 31) dJ6_stringSize_0f7a4_24 (by decide) (fun _ => ?_) (fun c9 => absurd ((ng10 n hn).2.2.1 (by omega)) c9)
  refine V_bipush (v := 10) dJ6_stringSize_0f7a4_31 (by decide) ?_
  refine V_iload_n dJ6_stringSize_0f7a4_33 1 rfl ?_
  refine V_imul dJ6_stringSize_0f7a4_34 ?_
  rw [show (10 * (-100) : Int32) = (-1000) from by decide]
  refine V_istore_n (lv' := [(2, .int (-1000)), (3, .int 2), (0, .int (-(nI n))), (1, .int 0)]) dJ6_stringSize_0f7a4_35 rfl (by decide) rfl ?_
  refine V_iinc (v := 3) (lv' := [(3, .int 3), (2, .int (-1000)), (0, .int (-(nI n))), (1, .int 0)]) dJ6_stringSize_0f7a4_36 1 rfl (by decide) (by decide) rfl ?_
  refine V_goto (tgt := 16) dJ6_stringSize_0f7a4_39 (by decide) ?_
  refine V_iload_n dJ6_stringSize_0f7a4_16 0 rfl ?_
  refine V_bipush (v := 10) dJ6_stringSize_0f7a4_17 (by decide) ?_
  refine V_icmp_ge (tgt := 42) dJ6_stringSize_0f7a4_19 (by decide) (fun c9 => absurd c9 (by decide)) (fun _ => ?_)
  refine V_iload_n dJ6_stringSize_0f7a4_22 2 rfl ?_
  refine V_iload_n dJ6_stringSize_0f7a4_23 1 rfl ?_
  refine V_icmp_le (tgt := 31) dJ6_stringSize_0f7a4_24 (by decide) (fun c9 => absurd c9 ((ng1000 n hn).2.1 (by omega))) (fun _ => ?_)
  refine V_iload_n dJ6_stringSize_0f7a4_27 0 rfl ?_
  refine V_iload_n dJ6_stringSize_0f7a4_28 3 rfl ?_
  refine V_iadd dJ6_stringSize_0f7a4_29 ?_
  exact V_iret dJ6_stringSize_0f7a4_30 rfl ⟨Nat.le_of_ble_eq_true rfl, Nat.le_of_ble_eq_true rfl⟩ ⟨by rw [show (3 + 0 : Int32) = 3 from by decide], rfl⟩
set_option maxRecDepth 20000 in
set_option maxHeartbeats 1000000 in
theorem c_size4 {X : KX} (hxs : X.1.stackTraces = false) {h : AH} {n : Nat} (hn : n < 10000) (hlo : 1000 ≤ n) (hhi : n < 10000) : Ct X mJ6_stringSize_0f7a4 [.int (nI n)] h (zR (some (.int 4)) h) := by
  refine Ct.of (by decide) rfl (Nat.le_of_ble_eq_true rfl) rfl hxs ?_
  refine V_iconst (v := 1) dJ6_stringSize_0f7a4_0 (by decide) ?_
  refine V_istore_n (lv' := [(1, .int 1), (0, .int (nI n))]) dJ6_stringSize_0f7a4_1 rfl (by decide) rfl ?_
  refine V_iload_n dJ6_stringSize_0f7a4_2 1 rfl ?_
  refine V_if_lt (tgt := 11) dJ6_stringSize_0f7a4_3 (by decide) (fun c9 => absurd c9 (nI_pos (by omega))) (fun _ => ?_)
  refine V_iconst (v := 0) dJ6_stringSize_0f7a4_6 (by decide) ?_
  refine V_istore_n (lv' := [(1, .int 0), (0, .int (nI n))]) dJ6_stringSize_0f7a4_7 rfl (by decide) rfl ?_
  refine V_iload_n dJ6_stringSize_0f7a4_8 1 rfl ?_
  refine V_ineg dJ6_stringSize_0f7a4_9 ?_
  refine V_istore_n (lv' := [(0, .int (-(nI n))), (1, .int 0)]) dJ6_stringSize_0f7a4_10 rfl (by decide) rfl ?_
  refine V_bipush (v := (-10)) dJ6_stringSize_0f7a4_11 (by decide) ?_
  refine V_istore_n (lv' := [(2, .int (-10)), (0, .int (-(nI n))), (1, .int 0)]) dJ6_stringSize_0f7a4_13 rfl (by decide) rfl ?_
  refine V_iconst (v := 1) dJ6_stringSize_0f7a4_14 (by decide) ?_
  refine V_istore_n (lv' := [(3, .int 1), (2, .int (-10)), (0, .int (-(nI n))), (1, .int 0)]) dJ6_stringSize_0f7a4_15 rfl (by decide) rfl ?_
  refine V_iload_n dJ6_stringSize_0f7a4_16 0 rfl ?_
  refine V_bipush (v := 10) dJ6_stringSize_0f7a4_17 (by decide) ?_
  refine V_icmp_ge (tgt := 42) dJ6_stringSize_0f7a4_19 (by decide) (fun c9 => absurd c9 (by decide)) (fun _ => ?_)
  refine V_iload_n dJ6_stringSize_0f7a4_22 2 rfl ?_
  refine V_iload_n dJ6_stringSize_0f7a4_23 1 rfl ?_
  refine V_icmp_le (tgt := 31) dJ6_stringSize_0f7a4_24 (by decide) (fun _ => ?_) (fun c9 => absurd ((ng10 n hn).1 (by omega)) c9)
  refine V_bipush (v := 10) dJ6_stringSize_0f7a4_31 (by decide) ?_
  refine V_iload_n dJ6_stringSize_0f7a4_33 1 rfl ?_
  refine V_imul dJ6_stringSize_0f7a4_34 ?_
  rw [show (10 * (-10) : Int32) = (-100) from by decide]
  refine V_istore_n (lv' := [(2, .int (-100)), (3, .int 1), (0, .int (-(nI n))), (1, .int 0)]) dJ6_stringSize_0f7a4_35 rfl (by decide) rfl ?_
  refine V_iinc (v := 2) (lv' := [(3, .int 2), (2, .int (-100)), (0, .int (-(nI n))), (1, .int 0)]) dJ6_stringSize_0f7a4_36 1 rfl (by decide) (by decide) rfl ?_
  refine V_goto (tgt := 16) dJ6_stringSize_0f7a4_39 (by decide) ?_
  refine V_iload_n dJ6_stringSize_0f7a4_16 0 rfl ?_
  refine V_bipush (v := 10) dJ6_stringSize_0f7a4_17 (by decide) ?_
  refine V_icmp_ge (tgt := 42) dJ6_stringSize_0f7a4_19 (by decide) (fun c9 => absurd c9 (by decide)) (fun _ => ?_)
  refine V_iload_n dJ6_stringSize_0f7a4_22 2 rfl ?_
  refine V_iload_n dJ6_stringSize_0f7a4_23 1 rfl ?_
  refine V_icmp_le (tgt := 31) dJ6_stringSize_0f7a4_24 (by decide) (fun _ => ?_) (fun c9 => absurd ((ng10 n hn).2.2.1 (by omega)) c9)
  refine V_bipush (v := 10) dJ6_stringSize_0f7a4_31 (by decide) ?_
  refine V_iload_n dJ6_stringSize_0f7a4_33 1 rfl ?_
  refine V_imul dJ6_stringSize_0f7a4_34 ?_
  rw [show (10 * (-100) : Int32) = (-1000) from by decide]
  refine V_istore_n (lv' := [(2, .int (-1000)), (3, .int 2), (0, .int (-(nI n))), (1, .int 0)]) dJ6_stringSize_0f7a4_35 rfl (by decide) rfl ?_
  refine V_iinc (v := 3) (lv' := [(3, .int 3), (2, .int (-1000)), (0, .int (-(nI n))), (1, .int 0)]) dJ6_stringSize_0f7a4_36 1 rfl (by decide) (by decide) rfl ?_
  refine V_goto (tgt := 16) dJ6_stringSize_0f7a4_39 (by decide) ?_
  refine V_iload_n dJ6_stringSize_0f7a4_16 0 rfl ?_
  refine V_bipush (v := 10) dJ6_stringSize_0f7a4_17 (by decide) ?_
  refine V_icmp_ge (tgt := 42) dJ6_stringSize_0f7a4_19 (by decide) (fun c9 => absurd c9 (by decide)) (fun _ => ?_)
  refine V_iload_n dJ6_stringSize_0f7a4_22 2 rfl ?_
  refine V_iload_n dJ6_stringSize_0f7a4_23 1 rfl ?_
  refine V_icmp_le (tgt := 31) dJ6_stringSize_0f7a4_24 (by decide) (fun _ => ?_) (fun c9 => absurd ((ng1000 n hn).1 (by omega)) c9)
  refine V_bipush (v := 10) dJ6_stringSize_0f7a4_31 (by decide) ?_
  refine V_iload_n dJ6_stringSize_0f7a4_33 1 rfl ?_
  refine V_imul dJ6_stringSize_0f7a4_34 ?_
  rw [show (10 * (-1000) : Int32) = (-10000) from by decide]
  refine V_istore_n (lv' := [(2, .int (-10000)), (3, .int 3), (0, .int (-(nI n))), (1, .int 0)]) dJ6_stringSize_0f7a4_35 rfl (by decide) rfl ?_
  refine V_iinc (v := 4) (lv' := [(3, .int 4), (2, .int (-10000)), (0, .int (-(nI n))), (1, .int 0)]) dJ6_stringSize_0f7a4_36 1 rfl (by decide) (by decide) rfl ?_
  refine V_goto (tgt := 16) dJ6_stringSize_0f7a4_39 (by decide) ?_
  refine V_iload_n dJ6_stringSize_0f7a4_16 0 rfl ?_
  refine V_bipush (v := 10) dJ6_stringSize_0f7a4_17 (by decide) ?_
  refine V_icmp_ge (tgt := 42) dJ6_stringSize_0f7a4_19 (by decide) (fun c9 => absurd c9 (by decide)) (fun _ => ?_)
  refine V_iload_n dJ6_stringSize_0f7a4_22 2 rfl ?_
  refine V_iload_n dJ6_stringSize_0f7a4_23 1 rfl ?_
  refine V_icmp_le (tgt := 31) dJ6_stringSize_0f7a4_24 (by decide) (fun c9 => absurd c9 ((ng1000 n hn).2.2.1)) (fun _ => ?_)
  refine V_iload_n dJ6_stringSize_0f7a4_27 0 rfl ?_
  refine V_iload_n dJ6_stringSize_0f7a4_28 3 rfl ?_
  refine V_iadd dJ6_stringSize_0f7a4_29 ?_
  exact V_iret dJ6_stringSize_0f7a4_30 rfl ⟨Nat.le_of_ble_eq_true rfl, Nat.le_of_ble_eq_true rfl⟩ ⟨by rw [show (4 + 0 : Int32) = 4 from by decide], rfl⟩
theorem dec_len {n : Nat} (hn : n < 10000) : 1 ≤ (dec n).length ∧ (dec n).length ≤ 4 := by
  unfold dec
  split
  · simp
  · split
    · simp
    · split <;> simp
theorem c_size {X : KX} (hxs : X.1.stackTraces = false) {h : AH} {n : Nat} (hn : n < 10000) : Ct X mJ6_stringSize_0f7a4 [.int (nI n)] h (zR (some (.int (nI (dec n).length))) h) := by
  unfold dec
  by_cases h1 : n < 10
  · rw [if_pos h1]; exact c_size1 hxs hn (by omega) h1
  · rw [if_neg h1]
    by_cases h2 : n < 100
    · rw [if_pos h2]; exact c_size2 hxs hn (by omega) h2
    · rw [if_neg h2]
      by_cases h3 : n < 1000
      · rw [if_pos h3]; exact c_size3 hxs hn (by omega) h3
      · rw [if_neg h3]; exact c_size4 hxs hn (by omega) hn
/-- letters written into bytes, from place p on -/
def putL (L : List Int32) (p : Nat) : List Int32 → List Int32
  | [] => L
  | b :: r => putL (wr L (nI p) b) (p + 1) r
set_option maxRecDepth 20000 in
set_option maxHeartbeats 1000000 in
theorem c_chars1 {X : KX} (hxs : X.1.stackTraces = false) (hg : GX X) {h : AH} {v n q : Nat} {L : List Int32} (hL : h.2 v = some (aL (kA X 2) L)) (hn : n < 10000) (hlo : 0 ≤ n) (hhi : n < 10) (hq : 1 ≤ q) (hq2 : q ≤ L.length) (hb : L.length < 2 ^ 30) : Ct X mJ6_getChars_ba4f3 [.int (nI n), .int (nI q), .ref v] h (zM (some (.int (nI (q - 1)))) (fun h' => h' = hput h v (aL (kA X 2) (wr L (nI (q - 1)) (nI (48 + n)))))) := by
  refine Ct.of (by decide) rfl (Nat.le_of_ble_eq_true rfl) rfl hxs ?_
  refine V_iload_n dJ6_getChars_ba4f3_0 1 rfl ?_
  refine V_istore (lv' := [(5, .int (nI q)), (0, .int (nI n)), (1, .int (nI q)), (2, .ref v)]) dJ6_getChars_ba4f3_1 (by decide) rfl ?_
  refine V_iload_n dJ6_getChars_ba4f3_3 1 rfl ?_
  refine V_if_ge (tgt := 11) dJ6_getChars_ba4f3_4 (by decide) (fun _ => ?_) (fun c9 => absurd (nI_pos' (by omega)) c9)
  refine V_iconst (v := 0) dJ6_getChars_ba4f3_11 (by decide) ?_
  refine V_istore (lv' := [(6, .int 0), (5, .int (nI q)), (0, .int (nI n)), (1, .int (nI q)), (2, .ref v)]) dJ6_getChars_ba4f3_12 (by decide) rfl ?_
  refine V_iload dJ6_getChars_ba4f3_14 0 rfl ?_
  refine V_if_ne (tgt := 22) dJ6_getChars_ba4f3_16 (by decide) (fun c9 => absurd c9 (fun q9 => q9 rfl)) (fun _ => ?_)
  refine V_iload_n dJ6_getChars_ba4f3_19 2 rfl ?_
  refine V_ineg dJ6_getChars_ba4f3_20 ?_
  refine V_istore_n (lv' := [(0, .int (-(nI n))), (6, .int 0), (5, .int (nI q)), (1, .int (nI q)), (2, .ref v)]) dJ6_getChars_ba4f3_21 rfl (by decide) rfl ?_
  refine V_iload_n dJ6_getChars_ba4f3_22 0 rfl ?_
  refine V_bipush (v := (-100)) dJ6_getChars_ba4f3_23 (by decide) ?_
  refine V_icmp_gt (tgt := 72) dJ6_getChars_ba4f3_25 (by decide) (fun _ => ?_) (fun c9 => absurd (Int32.not_le.mp ((ng10 n (by omega)).2.2.2 (by omega))) c9)
  refine V_aload_n dJ6_getChars_ba4f3_72 4 rfl ?_
  refine V_iinc (v := nI (q - 1)) (lv' := [(5, .int (nI (q - 1))), (0, .int (-(nI n))), (6, .int 0), (1, .int (nI q)), (2, .ref v)]) dJ6_getChars_ba4f3_73 2 rfl (dec1 (m := q) (by omega)) (by decide) rfl ?_
  refine V_iload dJ6_getChars_ba4f3_76 0 rfl ?_
  refine V_gets dJ6_getChars_ba4f3_78 flJ6_83 (fun U hU => (hg.2.2.2.1 U hU).2.2.1) ?_
  refine V_iload_n dJ6_getChars_ba4f3_81 1 rfl ?_
  refine V_ineg dJ6_getChars_ba4f3_82 ?_
  rw [(ng_div n (by omega)).2.2]
  refine V_tb dJ6_getChars_ba4f3_83 (fun U hU => (hg.2.2.2.1 U hU).2.2.2) (i := nI (n)) (v := .int (nI (48 + n))) (vp_in_nI (by omega) (by omega)) (congrArg Value.int (congrArg nI (by rw [nI_clamp (by omega)] <;> omega))) ?_
  refine V_bast dJ6_getChars_ba4f3_84 hL (vp_in_nI (by omega) (by omega)) (nar_s (48 + n) (by omega)) ?_
  refine V_iload_n dJ6_getChars_ba4f3_85 1 rfl ?_
  refine V_bipush (v := (-9)) dJ6_getChars_ba4f3_86 (by decide) ?_
  refine V_icmp_ge (tgt := 104) dJ6_getChars_ba4f3_88 (by decide) (fun _ => ?_) (fun c9 => absurd (Int32.not_lt.mp ((ng1000 n (by omega)).2.2.2.2 (by omega))) c9)
  refine V_iload dJ6_getChars_ba4f3_104 2 rfl ?_
  refine V_if_eq (tgt := 118) dJ6_getChars_ba4f3_106 (by decide) (fun _ => ?_) (fun c9 => absurd rfl c9)
  refine V_iload dJ6_getChars_ba4f3_118 0 rfl ?_
  refine V_iret dJ6_getChars_ba4f3_120 rfl ⟨Nat.le_of_ble_eq_true rfl, Nat.le_of_ble_eq_true rfl⟩ ⟨rfl, ?_⟩
  simp only [hput2]
set_option maxRecDepth 20000 in
set_option maxHeartbeats 1000000 in
theorem c_chars2 {X : KX} (hxs : X.1.stackTraces = false) (hg : GX X) {h : AH} {v n q : Nat} {L : List Int32} (hL : h.2 v = some (aL (kA X 2) L)) (hn : n < 10000) (hlo : 10 ≤ n) (hhi : n < 100) (hq : 2 ≤ q) (hq2 : q ≤ L.length) (hb : L.length < 2 ^ 30) : Ct X mJ6_getChars_ba4f3 [.int (nI n), .int (nI q), .ref v] h (zM (some (.int (nI (q - 2)))) (fun h' => h' = hput h v (aL (kA X 2) (wr (wr L (nI (q - 1)) (nI (48 + n % 10))) (nI (q - 2)) (nI (48 + n / 10)))))) := by
  refine Ct.of (by decide) rfl (Nat.le_of_ble_eq_true rfl) rfl hxs ?_
  refine V_iload_n dJ6_getChars_ba4f3_0 1 rfl ?_
  refine V_istore (lv' := [(5, .int (nI q)), (0, .int (nI n)), (1, .int (nI q)), (2, .ref v)]) dJ6_getChars_ba4f3_1 (by decide) rfl ?_
  refine V_iload_n dJ6_getChars_ba4f3_3 1 rfl ?_
  refine V_if_ge (tgt := 11) dJ6_getChars_ba4f3_4 (by decide) (fun _ => ?_) (fun c9 => absurd (nI_pos' (by omega)) c9)
  refine V_iconst (v := 0) dJ6_getChars_ba4f3_11 (by decide) ?_
  refine V_istore (lv' := [(6, .int 0), (5, .int (nI q)), (0, .int (nI n)), (1, .int (nI q)), (2, .ref v)]) dJ6_getChars_ba4f3_12 (by decide) rfl ?_
  refine V_iload dJ6_getChars_ba4f3_14 0 rfl ?_
  refine V_if_ne (tgt := 22) dJ6_getChars_ba4f3_16 (by decide) (fun c9 => absurd c9 (fun q9 => q9 rfl)) (fun _ => ?_)
  refine V_iload_n dJ6_getChars_ba4f3_19 2 rfl ?_
  refine V_ineg dJ6_getChars_ba4f3_20 ?_
  refine V_istore_n (lv' := [(0, .int (-(nI n))), (6, .int 0), (5, .int (nI q)), (1, .int (nI q)), (2, .ref v)]) dJ6_getChars_ba4f3_21 rfl (by decide) rfl ?_
  refine V_iload_n dJ6_getChars_ba4f3_22 0 rfl ?_
  refine V_bipush (v := (-100)) dJ6_getChars_ba4f3_23 (by decide) ?_
  refine V_icmp_gt (tgt := 72) dJ6_getChars_ba4f3_25 (by decide) (fun _ => ?_) (fun c9 => absurd (Int32.not_le.mp ((ng10 n (by omega)).2.2.2 (by omega))) c9)
  refine V_aload_n dJ6_getChars_ba4f3_72 4 rfl ?_
  refine V_iinc (v := nI (q - 1)) (lv' := [(5, .int (nI (q - 1))), (0, .int (-(nI n))), (6, .int 0), (1, .int (nI q)), (2, .ref v)]) dJ6_getChars_ba4f3_73 2 rfl (dec1 (m := q) (by omega)) (by decide) rfl ?_
  refine V_iload dJ6_getChars_ba4f3_76 0 rfl ?_
  refine V_gets dJ6_getChars_ba4f3_78 flJ6_83 (fun U hU => (hg.2.2.2.1 U hU).2.2.1) ?_
  refine V_iload_n dJ6_getChars_ba4f3_81 1 rfl ?_
  refine V_ineg dJ6_getChars_ba4f3_82 ?_
  rw [(ng_div n (by omega)).2.2]
  refine V_tb dJ6_getChars_ba4f3_83 (fun U hU => (hg.2.2.2.1 U hU).2.2.2) (i := nI (n)) (v := .int (nI (48 + n % 10))) (vp_in_nI (by omega) (by omega)) (congrArg Value.int (congrArg nI (by rw [nI_clamp (by omega)] <;> omega))) ?_
  refine V_bast dJ6_getChars_ba4f3_84 hL (vp_in_nI (by omega) (by omega)) (nar_s (48 + n % 10) (by omega)) ?_
  refine V_iload_n dJ6_getChars_ba4f3_85 1 rfl ?_
  refine V_bipush (v := (-9)) dJ6_getChars_ba4f3_86 (by decide) ?_
  refine V_icmp_ge (tgt := 104) dJ6_getChars_ba4f3_88 (by decide) (fun c9 => absurd ((ng1000 n (by omega)).2.2.2.1 (by omega)) (Int32.not_lt.mpr c9)) (fun _ => ?_)
  refine V_aload_n dJ6_getChars_ba4f3_91 4 rfl ?_
  refine V_iinc (v := nI (q - 2)) (lv' := [(5, .int (nI (q - 2))), (0, .int (-(nI n))), (6, .int 0), (1, .int (nI q)), (2, .ref v)]) dJ6_getChars_ba4f3_92 0 rfl (dec1 (m := (q - 1)) (by omega)) (by decide) rfl ?_
  refine V_iload dJ6_getChars_ba4f3_95 0 rfl ?_
  refine V_gets dJ6_getChars_ba4f3_97 flJ6_87 (fun U hU => (hg.2.2.2.1 U hU).1) ?_
  refine V_iload_n dJ6_getChars_ba4f3_100 1 rfl ?_
  refine V_ineg dJ6_getChars_ba4f3_101 ?_
  rw [(ng_div n (by omega)).2.2]
  refine V_tb dJ6_getChars_ba4f3_102 (fun U hU => (hg.2.2.2.1 U hU).2.1) (i := nI (n)) (v := .int (nI (48 + n / 10))) (vp_in_nI (by omega) (by omega)) (congrArg Value.int (congrArg nI (by rw [nI_clamp (by omega)] <;> omega))) ?_
  refine V_bast dJ6_getChars_ba4f3_103 hput_at (vp_in_nI (by simp only [wr_len]; omega) (by simp only [wr_len]; omega)) (nar_s (48 + n / 10) (by omega)) ?_
  refine V_iload dJ6_getChars_ba4f3_104 2 rfl ?_
  refine V_if_eq (tgt := 118) dJ6_getChars_ba4f3_106 (by decide) (fun _ => ?_) (fun c9 => absurd rfl c9)
  refine V_iload dJ6_getChars_ba4f3_118 0 rfl ?_
  refine V_iret dJ6_getChars_ba4f3_120 rfl ⟨Nat.le_of_ble_eq_true rfl, Nat.le_of_ble_eq_true rfl⟩ ⟨rfl, ?_⟩
  simp only [hput2]
set_option maxRecDepth 20000 in
set_option maxHeartbeats 1000000 in
theorem c_chars3 {X : KX} (hxs : X.1.stackTraces = false) (hg : GX X) {h : AH} {v n q : Nat} {L : List Int32} (hL : h.2 v = some (aL (kA X 2) L)) (hn : n < 10000) (hlo : 100 ≤ n) (hhi : n < 1000) (hq : 3 ≤ q) (hq2 : q ≤ L.length) (hb : L.length < 2 ^ 30) : Ct X mJ6_getChars_ba4f3 [.int (nI n), .int (nI q), .ref v] h (zM (some (.int (nI (q - 3)))) (fun h' => h' = hput h v (aL (kA X 2) (wr (wr (wr L (nI (q - 1)) (nI (48 + n % 10))) (nI (q - 2)) (nI (48 + n / 10 % 10))) (nI (q - 3)) (nI (48 + n / 100)))))) := by
  refine Ct.of (by decide) rfl (Nat.le_of_ble_eq_true rfl) rfl hxs ?_
  refine V_iload_n dJ6_getChars_ba4f3_0 1 rfl ?_
  refine V_istore (lv' := [(5, .int (nI q)), (0, .int (nI n)), (1, .int (nI q)), (2, .ref v)]) dJ6_getChars_ba4f3_1 (by decide) rfl ?_
  refine V_iload_n dJ6_getChars_ba4f3_3 1 rfl ?_
  refine V_if_ge (tgt := 11) dJ6_getChars_ba4f3_4 (by decide) (fun _ => ?_) (fun c9 => absurd (nI_pos' (by omega)) c9)
  refine V_iconst (v := 0) dJ6_getChars_ba4f3_11 (by decide) ?_
  refine V_istore (lv' := [(6, .int 0), (5, .int (nI q)), (0, .int (nI n)), (1, .int (nI q)), (2, .ref v)]) dJ6_getChars_ba4f3_12 (by decide) rfl ?_
  refine V_iload dJ6_getChars_ba4f3_14 0 rfl ?_
  refine V_if_ne (tgt := 22) dJ6_getChars_ba4f3_16 (by decide) (fun c9 => absurd c9 (fun q9 => q9 rfl)) (fun _ => ?_)
  refine V_iload_n dJ6_getChars_ba4f3_19 2 rfl ?_
  refine V_ineg dJ6_getChars_ba4f3_20 ?_
  refine V_istore_n (lv' := [(0, .int (-(nI n))), (6, .int 0), (5, .int (nI q)), (1, .int (nI q)), (2, .ref v)]) dJ6_getChars_ba4f3_21 rfl (by decide) rfl ?_
  refine V_iload_n dJ6_getChars_ba4f3_22 0 rfl ?_
  refine V_bipush (v := (-100)) dJ6_getChars_ba4f3_23 (by decide) ?_
  refine V_icmp_gt (tgt := 72) dJ6_getChars_ba4f3_25 (by decide) (fun c9 => absurd c9 (Int32.not_lt.mpr ((ng10 n hn).2.2.1 (by omega)))) (fun _ => ?_)
  refine V_iload_n dJ6_getChars_ba4f3_28 0 rfl ?_
  refine V_bipush (v := 100) dJ6_getChars_ba4f3_29 (by decide) ?_
  refine V_idiv dJ6_getChars_ba4f3_31 (by decide) ?_
  rw [(ng_div n hn).1]
  refine V_istore_n (lv' := [(3, .int (-(nI (n / 100)))), (0, .int (-(nI n))), (6, .int 0), (5, .int (nI q)), (1, .int (nI q)), (2, .ref v)]) dJ6_getChars_ba4f3_32 rfl (by decide) rfl ?_
  refine V_iload_n dJ6_getChars_ba4f3_33 0 rfl ?_
  refine V_bipush (v := 100) dJ6_getChars_ba4f3_34 (by decide) ?_
  refine V_imul dJ6_getChars_ba4f3_36 ?_
  refine V_iload_n dJ6_getChars_ba4f3_37 1 rfl ?_
  refine V_isub dJ6_getChars_ba4f3_38 ?_
  rw [(ng_div n hn).2.1]
  refine V_istore (lv' := [(4, .int (nI (n % 100))), (3, .int (-(nI (n / 100)))), (0, .int (-(nI n))), (6, .int 0), (5, .int (nI q)), (1, .int (nI q)), (2, .ref v)]) dJ6_getChars_ba4f3_39 (by decide) rfl ?_
  refine V_iload_n dJ6_getChars_ba4f3_41 1 rfl ?_
  refine V_istore_n (lv' := [(0, .int (-(nI (n / 100)))), (4, .int (nI (n % 100))), (3, .int (-(nI (n / 100)))), (6, .int 0), (5, .int (nI q)), (1, .int (nI q)), (2, .ref v)]) dJ6_getChars_ba4f3_42 rfl (by decide) rfl ?_
  refine V_aload_n dJ6_getChars_ba4f3_43 6 rfl ?_
  refine V_iinc (v := nI (q - 1)) (lv' := [(5, .int (nI (q - 1))), (0, .int (-(nI (n / 100)))), (4, .int (nI (n % 100))), (3, .int (-(nI (n / 100)))), (6, .int 0), (1, .int (nI q)), (2, .ref v)]) dJ6_getChars_ba4f3_44 4 rfl (dec1 (m := q) (by omega)) (by decide) rfl ?_
  refine V_iload dJ6_getChars_ba4f3_47 0 rfl ?_
  refine V_gets dJ6_getChars_ba4f3_49 flJ6_83 (fun U hU => (hg.2.2.2.1 U hU).2.2.1) ?_
  refine V_iload dJ6_getChars_ba4f3_52 2 rfl ?_
  refine V_tb dJ6_getChars_ba4f3_54 (fun U hU => (hg.2.2.2.1 U hU).2.2.2) (i := nI (n % 100)) (v := .int (nI (48 + n % 10))) (vp_in_nI (by omega) (by omega)) (congrArg Value.int (congrArg nI (by rw [nI_clamp (by omega)] <;> omega))) ?_
  refine V_bast dJ6_getChars_ba4f3_55 hL (vp_in_nI (by omega) (by omega)) (nar_s (48 + n % 10) (by omega)) ?_
  refine V_aload_n dJ6_getChars_ba4f3_56 6 rfl ?_
  refine V_iinc (v := nI (q - 2)) (lv' := [(5, .int (nI (q - 2))), (0, .int (-(nI (n / 100)))), (4, .int (nI (n % 100))), (3, .int (-(nI (n / 100)))), (6, .int 0), (1, .int (nI q)), (2, .ref v)]) dJ6_getChars_ba4f3_57 0 rfl (dec1 (m := (q - 1)) (by omega)) (by decide) rfl ?_
  refine V_iload dJ6_getChars_ba4f3_60 0 rfl ?_
  refine V_gets dJ6_getChars_ba4f3_62 flJ6_87 (fun U hU => (hg.2.2.2.1 U hU).1) ?_
  refine V_iload dJ6_getChars_ba4f3_65 2 rfl ?_
  refine V_tb dJ6_getChars_ba4f3_67 (fun U hU => (hg.2.2.2.1 U hU).2.1) (i := nI (n % 100)) (v := .int (nI (48 + n / 10 % 10))) (vp_in_nI (by omega) (by omega)) (congrArg Value.int (congrArg nI (by rw [nI_clamp (by omega)] <;> omega))) ?_
  refine V_bast dJ6_getChars_ba4f3_68 hput_at (vp_in_nI (by simp only [wr_len]; omega) (by simp only [wr_len]; omega)) (nar_s (48 + n / 10 % 10) (by omega)) ?_
  refine V_goto (tgt := 22) dJ6_getChars_ba4f3_69 (by decide) ?_
  refine V_iload_n dJ6_getChars_ba4f3_22 1 rfl ?_
  refine V_bipush (v := (-100)) dJ6_getChars_ba4f3_23 (by decide) ?_
  refine V_icmp_gt (tgt := 72) dJ6_getChars_ba4f3_25 (by decide) (fun _ => ?_) (fun c9 => absurd (Int32.not_le.mp ((ng10 (n / 100) (by omega)).2.2.2 (by omega))) c9)
  refine V_aload_n dJ6_getChars_ba4f3_72 6 rfl ?_
  refine V_iinc (v := nI (q - 3)) (lv' := [(5, .int (nI (q - 3))), (0, .int (-(nI (n / 100)))), (4, .int (nI (n % 100))), (3, .int (-(nI (n / 100)))), (6, .int 0), (1, .int (nI q)), (2, .ref v)]) dJ6_getChars_ba4f3_73 0 rfl (dec1 (m := (q - 2)) (by omega)) (by decide) rfl ?_
  refine V_iload dJ6_getChars_ba4f3_76 0 rfl ?_
  refine V_gets dJ6_getChars_ba4f3_78 flJ6_83 (fun U hU => (hg.2.2.2.1 U hU).2.2.1) ?_
  refine V_iload_n dJ6_getChars_ba4f3_81 1 rfl ?_
  refine V_ineg dJ6_getChars_ba4f3_82 ?_
  rw [(ng_div (n / 100) (by omega)).2.2]
  refine V_tb dJ6_getChars_ba4f3_83 (fun U hU => (hg.2.2.2.1 U hU).2.2.2) (i := nI ((n / 100))) (v := .int (nI (48 + n / 100))) (vp_in_nI (by omega) (by omega)) (congrArg Value.int (congrArg nI (by rw [nI_clamp (by omega)] <;> omega))) ?_
  refine V_bast dJ6_getChars_ba4f3_84 hput_at (vp_in_nI (by simp only [wr_len]; omega) (by simp only [wr_len]; omega)) (nar_s (48 + n / 100) (by omega)) ?_
  refine V_iload_n dJ6_getChars_ba4f3_85 1 rfl ?_
  refine V_bipush (v := (-9)) dJ6_getChars_ba4f3_86 (by decide) ?_
  refine V_icmp_ge (tgt := 104) dJ6_getChars_ba4f3_88 (by decide) (fun _ => ?_) (fun c9 => absurd (Int32.not_lt.mp ((ng1000 (n / 100) (by omega)).2.2.2.2 (by omega))) c9)
  refine V_iload dJ6_getChars_ba4f3_104 4 rfl ?_
  refine V_if_eq (tgt := 118) dJ6_getChars_ba4f3_106 (by decide) (fun _ => ?_) (fun c9 => absurd rfl c9)
  refine V_iload dJ6_getChars_ba4f3_118 0 rfl ?_
  refine V_iret dJ6_getChars_ba4f3_120 rfl ⟨Nat.le_of_ble_eq_true rfl, Nat.le_of_ble_eq_true rfl⟩ ⟨rfl, ?_⟩
  simp only [hput2]
set_option maxRecDepth 20000 in
set_option maxHeartbeats 1000000 in
theorem c_chars4 {X : KX} (hxs : X.1.stackTraces = false) (hg : GX X) {h : AH} {v n q : Nat} {L : List Int32} (hL : h.2 v = some (aL (kA X 2) L)) (hn : n < 10000) (hlo : 1000 ≤ n) (hhi : n < 10000) (hq : 4 ≤ q) (hq2 : q ≤ L.length) (hb : L.length < 2 ^ 30) : Ct X mJ6_getChars_ba4f3 [.int (nI n), .int (nI q), .ref v] h (zM (some (.int (nI (q - 4)))) (fun h' => h' = hput h v (aL (kA X 2) (wr (wr (wr (wr L (nI (q - 1)) (nI (48 + n % 10))) (nI (q - 2)) (nI (48 + n / 10 % 10))) (nI (q - 3)) (nI (48 + n / 100 % 10))) (nI (q - 4)) (nI (48 + n / 1000)))))) := by
  refine Ct.of (by decide) rfl (Nat.le_of_ble_eq_true rfl) rfl hxs ?_
  refine V_iload_n dJ6_getChars_ba4f3_0 1 rfl ?_
  refine V_istore (lv' := [(5, .int (nI q)), (0, .int (nI n)), (1, .int (nI q)), (2, .ref v)]) dJ6_getChars_ba4f3_1 (by decide) rfl ?_
  refine V_iload_n dJ6_getChars_ba4f3_3 1 rfl ?_
  refine V_if_ge (tgt := 11) dJ6_getChars_ba4f3_4 (by decide) (fun _ => ?_) (fun c9 => absurd (nI_pos' (by omega)) c9)
  refine V_iconst (v := 0) dJ6_getChars_ba4f3_11 (by decide) ?_
  refine V_istore (lv' := [(6, .int 0), (5, .int (nI q)), (0, .int (nI n)), (1, .int (nI q)), (2, .ref v)]) dJ6_getChars_ba4f3_12 (by decide) rfl ?_
  refine V_iload dJ6_getChars_ba4f3_14 0 rfl ?_
  refine V_if_ne (tgt := 22) dJ6_getChars_ba4f3_16 (by decide) (fun c9 => absurd c9 (fun q9 => q9 rfl)) (fun _ => ?_)
  refine V_iload_n dJ6_getChars_ba4f3_19 2 rfl ?_
  refine V_ineg dJ6_getChars_ba4f3_20 ?_
  refine V_istore_n (lv' := [(0, .int (-(nI n))), (6, .int 0), (5, .int (nI q)), (1, .int (nI q)), (2, .ref v)]) dJ6_getChars_ba4f3_21 rfl (by decide) rfl ?_
  refine V_iload_n dJ6_getChars_ba4f3_22 0 rfl ?_
  refine V_bipush (v := (-100)) dJ6_getChars_ba4f3_23 (by decide) ?_
  refine V_icmp_gt (tgt := 72) dJ6_getChars_ba4f3_25 (by decide) (fun c9 => absurd c9 (Int32.not_lt.mpr ((ng10 n hn).2.2.1 (by omega)))) (fun _ => ?_)
  refine V_iload_n dJ6_getChars_ba4f3_28 0 rfl ?_
  refine V_bipush (v := 100) dJ6_getChars_ba4f3_29 (by decide) ?_
  refine V_idiv dJ6_getChars_ba4f3_31 (by decide) ?_
  rw [(ng_div n hn).1]
  refine V_istore_n (lv' := [(3, .int (-(nI (n / 100)))), (0, .int (-(nI n))), (6, .int 0), (5, .int (nI q)), (1, .int (nI q)), (2, .ref v)]) dJ6_getChars_ba4f3_32 rfl (by decide) rfl ?_
  refine V_iload_n dJ6_getChars_ba4f3_33 0 rfl ?_
  refine V_bipush (v := 100) dJ6_getChars_ba4f3_34 (by decide) ?_
  refine V_imul dJ6_getChars_ba4f3_36 ?_
  refine V_iload_n dJ6_getChars_ba4f3_37 1 rfl ?_
  refine V_isub dJ6_getChars_ba4f3_38 ?_
  rw [(ng_div n hn).2.1]
  refine V_istore (lv' := [(4, .int (nI (n % 100))), (3, .int (-(nI (n / 100)))), (0, .int (-(nI n))), (6, .int 0), (5, .int (nI q)), (1, .int (nI q)), (2, .ref v)]) dJ6_getChars_ba4f3_39 (by decide) rfl ?_
  refine V_iload_n dJ6_getChars_ba4f3_41 1 rfl ?_
  refine V_istore_n (lv' := [(0, .int (-(nI (n / 100)))), (4, .int (nI (n % 100))), (3, .int (-(nI (n / 100)))), (6, .int 0), (5, .int (nI q)), (1, .int (nI q)), (2, .ref v)]) dJ6_getChars_ba4f3_42 rfl (by decide) rfl ?_
  refine V_aload_n dJ6_getChars_ba4f3_43 6 rfl ?_
  refine V_iinc (v := nI (q - 1)) (lv' := [(5, .int (nI (q - 1))), (0, .int (-(nI (n / 100)))), (4, .int (nI (n % 100))), (3, .int (-(nI (n / 100)))), (6, .int 0), (1, .int (nI q)), (2, .ref v)]) dJ6_getChars_ba4f3_44 4 rfl (dec1 (m := q) (by omega)) (by decide) rfl ?_
  refine V_iload dJ6_getChars_ba4f3_47 0 rfl ?_
  refine V_gets dJ6_getChars_ba4f3_49 flJ6_83 (fun U hU => (hg.2.2.2.1 U hU).2.2.1) ?_
  refine V_iload dJ6_getChars_ba4f3_52 2 rfl ?_
  refine V_tb dJ6_getChars_ba4f3_54 (fun U hU => (hg.2.2.2.1 U hU).2.2.2) (i := nI (n % 100)) (v := .int (nI (48 + n % 10))) (vp_in_nI (by omega) (by omega)) (congrArg Value.int (congrArg nI (by rw [nI_clamp (by omega)] <;> omega))) ?_
  refine V_bast dJ6_getChars_ba4f3_55 hL (vp_in_nI (by omega) (by omega)) (nar_s (48 + n % 10) (by omega)) ?_
  refine V_aload_n dJ6_getChars_ba4f3_56 6 rfl ?_
  refine V_iinc (v := nI (q - 2)) (lv' := [(5, .int (nI (q - 2))), (0, .int (-(nI (n / 100)))), (4, .int (nI (n % 100))), (3, .int (-(nI (n / 100)))), (6, .int 0), (1, .int (nI q)), (2, .ref v)]) dJ6_getChars_ba4f3_57 0 rfl (dec1 (m := (q - 1)) (by omega)) (by decide) rfl ?_
  refine V_iload dJ6_getChars_ba4f3_60 0 rfl ?_
  refine V_gets dJ6_getChars_ba4f3_62 flJ6_87 (fun U hU => (hg.2.2.2.1 U hU).1) ?_
  refine V_iload dJ6_getChars_ba4f3_65 2 rfl ?_
  refine V_tb dJ6_getChars_ba4f3_67 (fun U hU => (hg.2.2.2.1 U hU).2.1) (i := nI (n % 100)) (v := .int (nI (48 + n / 10 % 10))) (vp_in_nI (by omega) (by omega)) (congrArg Value.int (congrArg nI (by rw [nI_clamp (by omega)] <;> omega))) ?_
  refine V_bast dJ6_getChars_ba4f3_68 hput_at (vp_in_nI (by simp only [wr_len]; omega) (by simp only [wr_len]; omega)) (nar_s (48 + n / 10 % 10) (by omega)) ?_
  refine V_goto (tgt := 22) dJ6_getChars_ba4f3_69 (by decide) ?_
  refine V_iload_n dJ6_getChars_ba4f3_22 1 rfl ?_
  refine V_bipush (v := (-100)) dJ6_getChars_ba4f3_23 (by decide) ?_
  refine V_icmp_gt (tgt := 72) dJ6_getChars_ba4f3_25 (by decide) (fun _ => ?_) (fun c9 => absurd (Int32.not_le.mp ((ng10 (n / 100) (by omega)).2.2.2 (by omega))) c9)
  refine V_aload_n dJ6_getChars_ba4f3_72 6 rfl ?_
  refine V_iinc (v := nI (q - 3)) (lv' := [(5, .int (nI (q - 3))), (0, .int (-(nI (n / 100)))), (4, .int (nI (n % 100))), (3, .int (-(nI (n / 100)))), (6, .int 0), (1, .int (nI q)), (2, .ref v)]) dJ6_getChars_ba4f3_73 0 rfl (dec1 (m := (q - 2)) (by omega)) (by decide) rfl ?_
  refine V_iload dJ6_getChars_ba4f3_76 0 rfl ?_
  refine V_gets dJ6_getChars_ba4f3_78 flJ6_83 (fun U hU => (hg.2.2.2.1 U hU).2.2.1) ?_
  refine V_iload_n dJ6_getChars_ba4f3_81 1 rfl ?_
  refine V_ineg dJ6_getChars_ba4f3_82 ?_
  rw [(ng_div (n / 100) (by omega)).2.2]
  refine V_tb dJ6_getChars_ba4f3_83 (fun U hU => (hg.2.2.2.1 U hU).2.2.2) (i := nI ((n / 100))) (v := .int (nI (48 + n / 100 % 10))) (vp_in_nI (by omega) (by omega)) (congrArg Value.int (congrArg nI (by rw [nI_clamp (by omega)] <;> omega))) ?_
  refine V_bast dJ6_getChars_ba4f3_84 hput_at (vp_in_nI (by simp only [wr_len]; omega) (by simp only [wr_len]; omega)) (nar_s (48 + n / 100 % 10) (by omega)) ?_
  refine V_iload_n dJ6_getChars_ba4f3_85 1 rfl ?_
  refine V_bipush (v := (-9)) dJ6_getChars_ba4f3_86 (by decide) ?_
  refine V_icmp_ge (tgt := 104) dJ6_getChars_ba4f3_88 (by decide) (fun c9 => absurd ((ng1000 (n / 100) (by omega)).2.2.2.1 (by omega)) (Int32.not_lt.mpr c9)) (fun _ => ?_)
  refine V_aload_n dJ6_getChars_ba4f3_91 6 rfl ?_
  refine V_iinc (v := nI (q - 4)) (lv' := [(5, .int (nI (q - 4))), (0, .int (-(nI (n / 100)))), (4, .int (nI (n % 100))), (3, .int (-(nI (n / 100)))), (6, .int 0), (1, .int (nI q)), (2, .ref v)]) dJ6_getChars_ba4f3_92 0 rfl (dec1 (m := (q - 3)) (by omega)) (by decide) rfl ?_
  refine V_iload dJ6_getChars_ba4f3_95 0 rfl ?_
  refine V_gets dJ6_getChars_ba4f3_97 flJ6_87 (fun U hU => (hg.2.2.2.1 U hU).1) ?_
  refine V_iload_n dJ6_getChars_ba4f3_100 1 rfl ?_
  refine V_ineg dJ6_getChars_ba4f3_101 ?_
  rw [(ng_div (n / 100) (by omega)).2.2]
  refine V_tb dJ6_getChars_ba4f3_102 (fun U hU => (hg.2.2.2.1 U hU).2.1) (i := nI ((n / 100))) (v := .int (nI (48 + n / 1000))) (vp_in_nI (by omega) (by omega)) (congrArg Value.int (congrArg nI (by rw [nI_clamp (by omega)] <;> omega))) ?_
  refine V_bast dJ6_getChars_ba4f3_103 hput_at (vp_in_nI (by simp only [wr_len]; omega) (by simp only [wr_len]; omega)) (nar_s (48 + n / 1000) (by omega)) ?_
  refine V_iload dJ6_getChars_ba4f3_104 4 rfl ?_
  refine V_if_eq (tgt := 118) dJ6_getChars_ba4f3_106 (by decide) (fun _ => ?_) (fun c9 => absurd rfl c9)
  refine V_iload dJ6_getChars_ba4f3_118 0 rfl ?_
  refine V_iret dJ6_getChars_ba4f3_120 rfl ⟨Nat.le_of_ble_eq_true rfl, Nat.le_of_ble_eq_true rfl⟩ ⟨rfl, ?_⟩
  simp only [hput2]
