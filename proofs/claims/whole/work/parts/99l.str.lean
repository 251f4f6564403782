/-! the text of the words: its length, its letters -/
def txL : List Int := [108, 105, 115, 116, 32, 116, 119, 105, 110, 32, 114, 105, 115, 101, 32, 97, 112, 97, 114, 116, 32, 107, 101, 101, 112, 32, 108, 101, 116, 32, 112, 97, 121, 32, 105, 102, 32, 104, 101, 97, 100, 32, 110, 97, 109, 101, 32, 110, 101, 120, 116, 32, 98, 97, 99, 107, 32, 107, 101, 121, 32, 110, 111, 100, 101, 32, 110, 111, 116, 104, 105, 110, 103, 32, 98, 101, 32, 111, 114, 32, 97, 110, 100, 32, 110, 111, 116, 32, 108, 101, 110, 103, 116, 104, 32, 116, 111, 116, 97, 108, 32]
def txC (x : Int) : Int := txL.getD x.toNat 0
theorem txC_is : ∀ m : Nat, m < 101 → ((Int32.ofInt (bAnd (txB (m : Int)) 255)).toUInt32 % 65536).toInt32.toInt = txL.getD m 0 := by decide +kernel
theorem txC_nar : ∀ m : Nat, m < 101 → narrow .char (.int (Int32.ofInt (txL.getD m 0))) = .int (Int32.ofInt (txL.getD m 0)) := by decide +kernel
section STR
variable {d n : Nat} {mi : MI} {mr : MR} {Q : V → MI → Nat → MR → Prop}
theorem u_coder (hQ : Q (vI 0) mi n mr) : Tx (d+1) mt_J0_coder_7d493 [vX 2] mi n mr Q := by
  refine tx_intro (ls := [vX 2]) om_J0_coder_7d493 rfl (Nat.le_of_ble_eq_true rfl) ?_
  exact s_txcomp (dc kc_J0_coder_7d493 0 rfl) fw_J0_38 <| s_if_eq (tgt := 13) (dc kc_J0_coder_7d493 1 rfl) rfl (fun c => absurd c (by decide)) (fun _ => s_aload_nX (dc kc_J0_coder_7d493 2 rfl) rfl <| s_txcod (dc kc_J0_coder_7d493 3 rfl) fw_J0_15 <| s_goto (tgt := 14) (dc kc_J0_coder_7d493 4 rfl) rfl <| s_nreturn (dc kc_J0_coder_7d493 6 rfl) rfl (by decide) (Nat.zero_le _) (Nat.zero_le _) hQ)
theorem u_isLatin1 (hQ : Q (vI 1) mi n mr) : Tx (d+1) mt_J0_isLatin1_aae02 [vX 2] mi n mr Q := by
  refine tx_intro (ls := [vX 2]) om_J0_isLatin1_aae02 rfl (Nat.le_of_ble_eq_true rfl) ?_
  exact s_txcomp (dc kc_J0_isLatin1_aae02 0 rfl) fw_J0_38 <| s_if_eq (tgt := 17) (dc kc_J0_isLatin1_aae02 1 rfl) rfl (fun c => absurd c (by decide)) (fun _ => s_aload_nX (dc kc_J0_isLatin1_aae02 2 rfl) rfl <| s_txcod (dc kc_J0_isLatin1_aae02 3 rfl) fw_J0_15 <| s_if_ne (tgt := 17) (dc kc_J0_isLatin1_aae02 4 rfl) rfl (fun c => absurd rfl c) (fun _ => k_i (dc kc_J0_isLatin1_aae02 5 rfl) rfl <| s_goto (tgt := 18) (dc kc_J0_isLatin1_aae02 6 rfl) rfl <| s_zreturn (dc kc_J0_isLatin1_aae02 8 rfl) rfl (Or.inr rfl) (Nat.zero_le _) (Nat.zero_le _) hQ))
theorem u_strlen (hQ : Q (vI 101) mi n mr) : Tx (d+2) mt_J0_length_8abf5 [vX 2] mi n mr Q := by
  refine tx_intro (ls := [vX 2]) om_J0_length_8abf5 rfl (Nat.le_of_ble_eq_true rfl) ?_
  refine s_aload_nX (dc kc_J0_length_8abf5 0 rfl) rfl <| s_txval (dc kc_J0_length_8abf5 1 rfl) fw_J0_9 <| s_txlen (dc kc_J0_length_8abf5 2 rfl) <| s_aload_nX (dc kc_J0_length_8abf5 3 rfl) rfl <| c_t0r (dc kc_J0_length_8abf5 4 rfl) om_J0_coder_7d493 cl_J0_335 rfl rfl rfl rfl (Nat.le_of_ble_eq_true rfl) (Nat.zero_le _) (Nat.zero_le _) <| u_coder <| s_ishr (dc kc_J0_length_8abf5 5 rfl) <| s_ireturn (dc kc_J0_length_8abf5 6 rfl) rfl (Nat.zero_le _) (Nat.zero_le _) ?_
  rw [show bShr 101 0 = 101 from sr0 (a := 101) (by decide)]
  exact hQ
theorem u_chk3 {i : Int} {x : V} (hx : lsOf [vI i, vI 101, x] = [vI i, vI 101, x]) (h0 : 0 ≤ i) (h1 : i < 101) (hQ : Q (vI i) mi n mr) : Tx (d+1) mt_J3_checkIndex_8e157 [vI i, vI 101, x] mi n mr Q := by
  refine tx_intro (ls := [vI i, vI 101, x]) om_J3_checkIndex_8e157 (by rw [hx]; rfl) (by rw [hx]; exact Nat.le_of_ble_eq_true rfl) ?_
  exact s_iload_n (dc kc_J3_checkIndex_8e157 0 rfl) rfl <| s_if_lt (tgt := 9) (dc kc_J3_checkIndex_8e157 1 rfl) rfl (fun c => absurd c (by omega)) (fun _ => s_iload_n (dc kc_J3_checkIndex_8e157 2 rfl) rfl <| s_iload_n (dc kc_J3_checkIndex_8e157 3 rfl) rfl <| s_icmp_lt (tgt := 16) (dc kc_J3_checkIndex_8e157 4 rfl) rfl (fun _ => s_iload_n (dc kc_J3_checkIndex_8e157 10 rfl) rfl <| s_ireturn (dc kc_J3_checkIndex_8e157 11 rfl) rfl (Nat.zero_le _) (Nat.zero_le _) hQ) (fun c => absurd c (by omega)))
theorem u_chk {i : Int} (h0 : 0 ≤ i) (h1 : i < 101) (hQ : Q (vX 0) mi n mr) : Tx (d+2) mt_J0_checkIndex_df160 [vI i, vI 101] mi n mr Q := by
  refine tx_intro (ls := [vI i, vI 101]) om_J0_checkIndex_df160 rfl (Nat.le_of_ble_eq_true rfl) ?_
  refine s_iload_n (dc kc_J0_checkIndex_df160 0 rfl) rfl <| s_iload_n (dc kc_J0_checkIndex_df160 1 rfl) rfl <| s_txfmt (dc kc_J0_checkIndex_df160 2 rfl) fw_J0_1053 ?_ ?_
  · exact c_s3r (dc kc_J0_checkIndex_df160 3 rfl) cl_J0_1059 rfl (Nat.le_of_ble_eq_true rfl) (Nat.zero_le _) (Nat.zero_le _) <| u_chk3 rfl h0 h1 <| s_pop (dc kc_J0_checkIndex_df160 4 rfl) rfl <| s_return (dc kc_J0_checkIndex_df160 5 rfl) rfl (Nat.zero_le _) (Nat.zero_le _) hQ
  · exact c_s3r (dc kc_J0_checkIndex_df160 3 rfl) cl_J0_1059 rfl (Nat.le_of_ble_eq_true rfl) (Nat.zero_le _) (Nat.zero_le _) <| u_chk3 rfl h0 h1 <| s_pop (dc kc_J0_checkIndex_df160 4 rfl) rfl <| s_return (dc kc_J0_checkIndex_df160 5 rfl) rfl (Nat.zero_le _) (Nat.zero_le _) hQ
theorem u_lch {i : Int} (h0 : 0 ≤ i) (h1 : i < 101) (hQ : Q (vI (txC i)) mi n mr) : Tx (d+3) mt_J1_charAt_3b067 [vX 3, vI i] mi n mr Q := by
  have e1 := txC_is i.toNat (by omega)
  have e2 := txC_nar i.toNat (by omega)
  rw [Int.toNat_of_nonneg h0] at e1
  unfold txC at hQ
  refine tx_intro (ls := [vX 3, vI i]) om_J1_charAt_3b067 rfl (Nat.le_of_ble_eq_true rfl) ?_
  refine s_iload_n (dc kc_J1_charAt_3b067 0 rfl) rfl <| s_aload_nX (dc kc_J1_charAt_3b067 1 rfl) rfl <| s_txlen (dc kc_J1_charAt_3b067 2 rfl) <| c_s2 (dc kc_J1_charAt_3b067 3 rfl) cl_J1_9 rfl (Nat.le_of_ble_eq_true rfl) (Nat.zero_le _) (Nat.zero_le _) <| u_chk h0 h1 <| s_aload_nX (dc kc_J1_charAt_3b067 4 rfl) rfl <| s_iload_n (dc kc_J1_charAt_3b067 5 rfl) rfl <| s_txald (dc kc_J1_charAt_3b067 6 rfl) h0 h1 <| k_s (dc kc_J1_charAt_3b067 7 rfl) rfl <| s_iand (dc kc_J1_charAt_3b067 8 rfl) <| s_i2c (dc kc_J1_charAt_3b067 9 rfl) ?_
  rw [e1]
  exact s_nreturn (dc kc_J1_charAt_3b067 10 rfl) rfl e2 (Nat.zero_le _) (Nat.zero_le _) hQ
theorem u_charAt {i : Int} (h0 : 0 ≤ i) (h1 : i < 101) (hQ : Q (vI (txC i)) mi n mr) : Tx (d+4) mt_J0_charAt_5068e [vX 2, vI i] mi n mr Q := by
  have e2 := txC_nar i.toNat (by omega)
  refine tx_intro (ls := [vX 2, vI i]) om_J0_charAt_5068e rfl (Nat.le_of_ble_eq_true rfl) ?_
  exact s_aload_nX (dc kc_J0_charAt_5068e 0 rfl) rfl <| c_t0r (dc kc_J0_charAt_5068e 1 rfl) om_J0_isLatin1_aae02 cl_J0_492 rfl rfl rfl rfl (Nat.le_of_ble_eq_true rfl) (Nat.zero_le _) (Nat.zero_le _) <| u_isLatin1 <| s_if_eq (tgt := 16) (dc kc_J0_charAt_5068e 2 rfl) rfl (fun c => absurd c (by decide)) (fun _ => s_aload_nX (dc kc_J0_charAt_5068e 3 rfl) rfl <| s_txval (dc kc_J0_charAt_5068e 4 rfl) fw_J0_9 <| s_iload_n (dc kc_J0_charAt_5068e 5 rfl) rfl <| c_s2r (dc kc_J0_charAt_5068e 6 rfl) cl_J0_495 rfl (Nat.le_of_ble_eq_true rfl) (Nat.zero_le _) (Nat.zero_le _) <| u_lch h0 h1 <| s_nreturn (dc kc_J0_charAt_5068e 7 rfl) rfl e2 (Nat.zero_le _) (Nat.zero_le _) hQ)
end STR
