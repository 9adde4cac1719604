noncomputable def fX0_add_0 (k0 : Nat) (a1 : Int32) (a2 : Int64) (a4 : Int32) (σ : zSt) : Option zSt := 
    (if (gi σ (21 + 4 * k0) 3) < 0 then some σ
    else 
      (if (60 : Int32) ≤ (gi σ (21 + 4 * k0) 3) then some σ
      else zg (vp_in (gi σ (21 + 4 * k0) 3) 60) <| nm (gi (si σ (21 + 4 * k0 + 1) (gi σ (21 + 4 * k0) 3).toNatClampNeg a1) (21 + 4 * k0) 3) fun x31_4 => zg (vp_in x31_4 60) <| nm (gi (si σ (21 + 4 * k0 + 1) (gi σ (21 + 4 * k0) 3).toNatClampNeg a1) (21 + 4 * k0) 3) fun x41_6 => zg (vp_in x41_6 60) <| nm (gi (si (sl (si σ (21 + 4 * k0 + 1) (gi σ (21 + 4 * k0) 3).toNatClampNeg a1) (21 + 4 * k0 + 2) x31_4.toNatClampNeg a2) (21 + 4 * k0 + 3) x41_6.toNatClampNeg a4) (21 + 4 * k0) 3) fun x49_8 => some (si (si (sl (si σ (21 + 4 * k0 + 1) (gi σ (21 + 4 * k0) 3).toNatClampNeg a1) (21 + 4 * k0 + 2) x31_4.toNatClampNeg a2) (21 + 4 * k0 + 3) x41_6.toNatClampNeg a4) (21 + 4 * k0) 3 (x49_8 + (1 : Int32)))))
noncomputable def fX0_add (k0 : Nat) (a1 : Int32) (a2 : Int64) (a4 : Int32) (σ : zSt) : Option zSt := zg (k0 < 10) <| fX0_add_0 k0 a1 a2 a4 σ
set_option maxRecDepth 100000 in
set_option maxHeartbeats 4000000 in
theorem wX0_add_0 {T : zX} (hC : zOk T cX0_add RX0 0 0 0 61) (hN : zNL T = 5) {σ' : zSt} (hQ : zRes T none (none) σ') (k0 : Nat) (a1 : Int32) (a2 : Int64) (a4 : Int32) (hk_k0 : k0 < 10) (σ : zSt) (h : fX0_add_0 k0 a1 a2 a4 σ = some σ') : Z T σ 0 [(0, .ref (zAd T (21 + 4 * k0))), (1, .int a1), (2, .long a2), (4, .int a4)] [] := by
  unfold fX0_add_0 at h
  refine z_aload_n hC 0 rfl rfl dX0_add_0 ?_
  refine gX0_3 hC hk_k0 kf_X0_22 (gi σ (21 + 4 * k0) 3) rfl dX0_add_1 ?_
  refine z_if_lt hC 57 (by decide) dX0_add_4 (fun q4_1 => ?_) (fun q4_1 => ?_)
  · replace h := z_t q4_1 h
    obtain rfl := z_so h
    exact z_vret hC hQ dX0_add_57
  · replace h := z_f q4_1 h
    refine z_aload_n hC 0 rfl rfl dX0_add_7 ?_
    refine gX0_3 hC hk_k0 kf_X0_22 (gi σ (21 + 4 * k0) 3) rfl dX0_add_8 ?_
    refine z_bipush hC (60 : Int32) (by decide) dX0_add_11 ?_
    refine z_icmp_ge hC 57 (by decide) dX0_add_13 (fun q13_2 => ?_) (fun q13_2 => ?_)
    · replace h := z_t q13_2 h
      obtain rfl := z_so h
      exact z_vret hC hQ dX0_add_57
    · replace h := z_f q13_2 h
      refine z_aload_n hC 0 rfl rfl dX0_add_16 ?_
      refine gX0_0 hC hk_k0 kf_X0_9 dX0_add_17 ?_
      refine z_aload_n hC 0 rfl rfl dX0_add_20 ?_
      refine gX0_3 hC hk_k0 kf_X0_22 (gi σ (21 + 4 * k0) 3) rfl dX0_add_21 ?_
      refine z_iload_n hC 1 rfl rfl dX0_add_24 ?_
      refine z_g h (fun g25_3 h => ?_)
      refine z_iast hC (21 + 4 * k0 + 1) ⟨by omega, by omega⟩ (zS_k1 hk_k0) g25_3 dX0_add_25 ?_
      refine z_aload_n hC 0 rfl rfl dX0_add_26 ?_
      refine gX0_1 hC hk_k0 kf_X0_15 dX0_add_27 ?_
      refine z_aload_n hC 0 rfl rfl dX0_add_30 ?_
      refine gX0_3 hC hk_k0 kf_X0_22 (gi (si σ (21 + 4 * k0 + 1) (gi σ (21 + 4 * k0) 3).toNatClampNeg a1) (21 + 4 * k0) 3) rfl dX0_add_31 ?_
      refine z_nmI h (fun x31_4 h => ?_)
      refine z_lload_n hC 2 rfl rfl dX0_add_34 ?_
      refine z_g h (fun g35_5 h => ?_)
      refine z_last hC (21 + 4 * k0 + 2) ⟨by omega, by omega⟩ (zS_k2 hk_k0) g35_5 dX0_add_35 ?_
      refine z_aload_n hC 0 rfl rfl dX0_add_36 ?_
      refine gX0_2 hC hk_k0 kf_X0_19 dX0_add_37 ?_
      refine z_aload_n hC 0 rfl rfl dX0_add_40 ?_
      refine gX0_3 hC hk_k0 kf_X0_22 (gi (si σ (21 + 4 * k0 + 1) (gi σ (21 + 4 * k0) 3).toNatClampNeg a1) (21 + 4 * k0) 3) rfl dX0_add_41 ?_
      refine z_nmI h (fun x41_6 h => ?_)
      refine z_iload hC 3 rfl dX0_add_44 ?_
      refine z_g h (fun g46_7 h => ?_)
      refine z_iast hC (21 + 4 * k0 + 3) ⟨by omega, by omega⟩ (zS_k3 hk_k0) g46_7 dX0_add_46 ?_
      refine z_aload_n hC 0 rfl rfl dX0_add_47 ?_
      refine z_dup hC rfl dX0_add_48 ?_
      refine gX0_3 hC hk_k0 kf_X0_22 (gi (si (sl (si σ (21 + 4 * k0 + 1) (gi σ (21 + 4 * k0) 3).toNatClampNeg a1) (21 + 4 * k0 + 2) x31_4.toNatClampNeg a2) (21 + 4 * k0 + 3) x41_6.toNatClampNeg a4) (21 + 4 * k0) 3) rfl dX0_add_49 ?_
      refine z_nmI h (fun x49_8 h => ?_)
      refine z_iconst hC (1 : Int32) (by decide) dX0_add_52 ?_
      refine z_iadd hC dX0_add_53 ?_
      refine pX0_3 hC hk_k0 kf_X0_22 dX0_add_54 ?_
      obtain rfl := z_so h
      exact z_vret hC hQ dX0_add_57
set_option maxRecDepth 100000 in
theorem ctX0_add {l : Launch} {G : zGt} {mk : zSt → zSt} (hm : zM mk 0 61) {k0 : Nat} {a1 : Int32} {a2 : Int64} {a4 : Int32} {σ : zSt} {σ' : zSt} (h : fX0_add k0 a1 a2 a4 σ = some σ') : zMet l G mk yX0_add cX0_add 5 none 0 0 [.ref (gA G (21 + 4 * k0)), .int a1, .long a2, .int a4] σ (none) σ' := by
  unfold fX0_add at h
  refine z_g h (fun hk_k0 h => ?_)
  refine zMet.of (plainFor_of_name (by decide +kernel)) hm (Nat.le_of_ble_eq_true rfl) (fun T eL eG eM hN hC hQ => ?_)
  subst eL; subst eG; subst eM
  refine z_sub [(0, .ref (zAd T (21 + 4 * k0))), (1, .int a1), (2, .long a2), (4, .int a4)] [0, 1, 2, 3] rfl ?_
  exact wX0_add_0 hC hN hQ _ _ _ _ hk_k0 _ h
noncomputable def fX0_copy_7 (K7 : Nat → Nat → Int32 → zSt → Option zSt) (v0 : Nat) (v1 : Nat) (v2 : Int32) (σ : zSt) : Option zSt := 
    (if (gi σ (21 + 4 * v1) 3) ≤ v2 then some σ
    else 
      (if (60 : Int32) ≤ v2 then some σ
      else zg (vp_in v2 60) <| zg (vp_in v2 60) <| zg (vp_in v2 60) <| bd1 (fX0_add v0 (gi σ (21 + 4 * v1 + 1) v2.toNatClampNeg) (gl σ (21 + 4 * v1 + 2) v2.toNatClampNeg) (gi σ (21 + 4 * v1 + 3) v2.toNatClampNeg) σ) fun s40_6 => nm (v2 + (1 : Int32)) fun x43_7 => K7 v0 v1 x43_7 s40_6))
noncomputable def fX0_copy_L7 : Nat → Nat → Nat → Int32 → zSt → Option zSt
  | 0, _, _, _, _ => none
  | n + 1, v0, v1, v2, σ => fX0_copy_7 (fX0_copy_L7 n) v0 v1 v2 σ
noncomputable def fX0_copy_0 (k0 : Nat) (a1 : Nat) (σ : zSt) : Option zSt := fX0_copy_L7 zFU k0 a1 (0 : Int32) (si σ (21 + 4 * k0) 3 (0 : Int32))
noncomputable def fX0_copy (k0 : Nat) (a1 : Nat) (σ : zSt) : Option zSt := zg (k0 < 10) <| zg (a1 < 10) <| fX0_copy_0 k0 a1 σ
set_option maxRecDepth 100000 in
set_option maxHeartbeats 4000000 in
theorem wX0_copy_7 {T : zX} (hC : zOk T cX0_copy RX0 1 24 0 61) (hN : zNL T = 3) {σ' : zSt} (hQ : zRes T none (none) σ') (K7 : Nat → Nat → Int32 → zSt → Option zSt) (hK7 : ∀ (v0 : Nat) (v1 : Nat) (v2 : Int32) (hk_v0 : v0 < 10) (hk_v1 : v1 < 10) (τ : zSt), K7 v0 v1 v2 τ = some σ' → Z T τ 7 [(0, .ref (zAd T (21 + 4 * v0))), (1, .ref (zAd T (21 + 4 * v1))), (2, .int v2)] []) (v0 : Nat) (v1 : Nat) (v2 : Int32) (hk_v0 : v0 < 10) (hk_v1 : v1 < 10) (σ : zSt) (h : fX0_copy_7 K7 v0 v1 v2 σ = some σ') : Z T σ 7 [(0, .ref (zAd T (21 + 4 * v0))), (1, .ref (zAd T (21 + 4 * v1))), (2, .int v2)] [] := by
  unfold fX0_copy_7 at h
  refine z_iload_n hC 2 rfl rfl dX0_copy_7 ?_
  refine z_aload_n hC 1 rfl rfl dX0_copy_8 ?_
  refine gX0_3 hC hk_v1 kf_X0_22 (gi σ (21 + 4 * v1) 3) rfl dX0_copy_9 ?_
  refine z_icmp_ge hC 49 (by decide) dX0_copy_12 (fun q12_1 => ?_) (fun q12_1 => ?_)
  · replace h := z_t q12_1 h
    obtain rfl := z_so h
    exact z_vret hC hQ dX0_copy_49
  · replace h := z_f q12_1 h
    refine z_iload_n hC 2 rfl rfl dX0_copy_15 ?_
    refine z_bipush hC (60 : Int32) (by decide) dX0_copy_16 ?_
    refine z_icmp_ge hC 49 (by decide) dX0_copy_18 (fun q18_2 => ?_) (fun q18_2 => ?_)
    · replace h := z_t q18_2 h
      obtain rfl := z_so h
      exact z_vret hC hQ dX0_copy_49
    · replace h := z_f q18_2 h
      refine z_aload_n hC 0 rfl rfl dX0_copy_21 ?_
      refine z_aload_n hC 1 rfl rfl dX0_copy_22 ?_
      refine gX0_0 hC hk_v1 kf_X0_9 dX0_copy_23 ?_
      refine z_iload_n hC 2 rfl rfl dX0_copy_26 ?_
      refine z_g h (fun g27_3 h => ?_)
      refine z_iald hC (21 + 4 * v1 + 1) ⟨by omega, by omega⟩ (zS_k1 hk_v1 _ _) g27_3 (gi σ (21 + 4 * v1 + 1) v2.toNatClampNeg) rfl dX0_copy_27 ?_
      refine z_aload_n hC 1 rfl rfl dX0_copy_28 ?_
      refine gX0_1 hC hk_v1 kf_X0_15 dX0_copy_29 ?_
      refine z_iload_n hC 2 rfl rfl dX0_copy_32 ?_
      refine z_g h (fun g33_4 h => ?_)
      refine z_lald hC (21 + 4 * v1 + 2) ⟨by omega, by omega⟩ (zS_k2 hk_v1 _ _) g33_4 (gl σ (21 + 4 * v1 + 2) v2.toNatClampNeg) rfl dX0_copy_33 ?_
      refine z_aload_n hC 1 rfl rfl dX0_copy_34 ?_
      refine gX0_2 hC hk_v1 kf_X0_19 dX0_copy_35 ?_
      refine z_iload_n hC 2 rfl rfl dX0_copy_38 ?_
      refine z_g h (fun g39_5 h => ?_)
      refine z_iald hC (21 + 4 * v1 + 3) ⟨by omega, by omega⟩ (zS_k3 hk_v1 _ _) g39_5 (gi σ (21 + 4 * v1 + 3) v2.toNatClampNeg) rfl dX0_copy_39 ?_
      refine z_b1 h (fun s40_6 e_s40_6 h => ?_)
      refine z_cV3v hC (ctX0_add hC.hm e_s40_6) (rcX0 hC hk_v0) kb_X0_add km_X0_26 ⟨by decide, by decide⟩ (Nat.le_of_ble_eq_true rfl) dX0_copy_40 ?_
      refine z_nmE h (fun x43_7 e_x43_7 h => ?_)
      refine z_iinc hC x43_7 [(2, .int x43_7), (0, .ref (zAd T (21 + 4 * v0))), (1, .ref (zAd T (21 + 4 * v1)))] 2 rfl (by rw [e_x43_7]; rfl) (by rw [hN]; decide) rfl dX0_copy_43 ?_
      refine z_goto hC 7 (by decide) dX0_copy_46 ?_
      refine z_sub [(0, .ref (zAd T (21 + 4 * v0))), (1, .ref (zAd T (21 + 4 * v1))), (2, .int x43_7)] [1, 2, 0] rfl ?_
      exact hK7 _ _ _ hk_v0 hk_v1 _ h
theorem wX0_copy_L7 {T : zX} (hC : zOk T cX0_copy RX0 1 24 0 61) (hN : zNL T = 3) {σ' : zSt} (hQ : zRes T none (none) σ') (n : Nat) : ∀ (v0 : Nat) (v1 : Nat) (v2 : Int32) (hk_v0 : v0 < 10) (hk_v1 : v1 < 10) (σ : zSt), fX0_copy_L7 n v0 v1 v2 σ = some σ' → Z T σ 7 [(0, .ref (zAd T (21 + 4 * v0))), (1, .ref (zAd T (21 + 4 * v1))), (2, .int v2)] [] := by
  induction n with
  | zero => intro v0 v1 v2 hk_v0 hk_v1 σ h; cases h
  | succ n ih => intro v0 v1 v2 hk_v0 hk_v1 σ h; exact wX0_copy_7 hC hN hQ (fX0_copy_L7 n) ih v0 v1 v2 hk_v0 hk_v1 σ h
set_option maxRecDepth 100000 in
set_option maxHeartbeats 4000000 in
theorem wX0_copy_0 {T : zX} (hC : zOk T cX0_copy RX0 1 24 0 61) (hN : zNL T = 3) {σ' : zSt} (hQ : zRes T none (none) σ') (k0 : Nat) (a1 : Nat) (hk_k0 : k0 < 10) (hk_a1 : a1 < 10) (σ : zSt) (h : fX0_copy_0 k0 a1 σ = some σ') : Z T σ 0 [(0, .ref (zAd T (21 + 4 * k0))), (1, .ref (zAd T (21 + 4 * a1)))] [] := by
  unfold fX0_copy_0 at h
  refine z_aload_n hC 0 rfl rfl dX0_copy_0 ?_
  refine z_iconst hC (0 : Int32) (by decide) dX0_copy_1 ?_
  refine pX0_3 hC hk_k0 kf_X0_22 dX0_copy_2 ?_
  refine z_iconst hC (0 : Int32) (by decide) dX0_copy_5 ?_
  refine z_istore_n hC [(2, .int (0 : Int32)), (0, .ref (zAd T (21 + 4 * k0))), (1, .ref (zAd T (21 + 4 * a1)))] rfl (by rw [hN]; decide) rfl dX0_copy_6 ?_
  refine z_sub [(0, .ref (zAd T (21 + 4 * k0))), (1, .ref (zAd T (21 + 4 * a1))), (2, .int (0 : Int32))] [1, 2, 0] rfl ?_
  exact (wX0_copy_L7 hC hN hQ zFU) _ _ _ hk_k0 hk_a1 _ h
set_option maxRecDepth 100000 in
theorem ctX0_copy {l : Launch} {G : zGt} {mk : zSt → zSt} (hm : zM mk 0 61) {k0 : Nat} {a1 : Nat} {σ : zSt} {σ' : zSt} (h : fX0_copy k0 a1 σ = some σ') : zMet l G mk yX0_copy cX0_copy 3 none 1 24 [.ref (gA G (21 + 4 * k0)), .ref (gA G (21 + 4 * a1))] σ (none) σ' := by
  unfold fX0_copy at h
  refine z_g h (fun hk_k0 h => ?_)
  refine z_g h (fun hk_a1 h => ?_)
  refine zMet.of (plainFor_of_name (by decide +kernel)) hm (Nat.le_of_ble_eq_true rfl) (fun T eL eG eM hN hC hQ => ?_)
  subst eL; subst eG; subst eM
  refine z_sub [(0, .ref (zAd T (21 + 4 * k0))), (1, .ref (zAd T (21 + 4 * a1)))] [0, 1] rfl ?_
  exact wX0_copy_0 hC hN hQ _ _ hk_k0 hk_a1 _ h
noncomputable def fX0_kindAt_0 (k0 : Nat) (a1 : Int32) (σ : zSt) : Option Int32 := 
    (if a1 < 0 then some (-1 : Int32)
    else 
      (if (60 : Int32) ≤ a1 then some (-1 : Int32)
      else zg (vp_in a1 60) <| some (gi σ (21 + 4 * k0 + 1) a1.toNatClampNeg)))
noncomputable def fX0_kindAt (k0 : Nat) (a1 : Int32) (σ : zSt) : Option Int32 := zg (k0 < 10) <| fX0_kindAt_0 k0 a1 σ
set_option maxRecDepth 100000 in
set_option maxHeartbeats 4000000 in
theorem wX0_kindAt_0 {T : zX} {σ : zSt} (hC : zOk T cX0_kindAt RX0 0 0 0 61) (hN : zNL T = 2) {r : Int32} (hQ : zRes T (some .int) (some (.int r)) σ) (k0 : Nat) (a1 : Int32) (hk_k0 : k0 < 10) (h : fX0_kindAt_0 k0 a1 σ = some r) : Z T σ 0 [(0, .ref (zAd T (21 + 4 * k0))), (1, .int a1)] [] := by
  unfold fX0_kindAt_0 at h
  refine z_iload_n hC 1 rfl rfl dX0_kindAt_0 ?_
  refine z_if_lt hC 19 (by decide) dX0_kindAt_1 (fun q1_1 => ?_) (fun q1_1 => ?_)
  · replace h := z_t q1_1 h
    refine z_iconst hC (-1 : Int32) (by decide) dX0_kindAt_19 ?_
    obtain rfl := z_so h
    exact z_iret hC hQ dX0_kindAt_20
  · replace h := z_f q1_1 h
    refine z_iload_n hC 1 rfl rfl dX0_kindAt_4 ?_
    refine z_bipush hC (60 : Int32) (by decide) dX0_kindAt_5 ?_
    refine z_icmp_ge hC 19 (by decide) dX0_kindAt_7 (fun q7_2 => ?_) (fun q7_2 => ?_)
    · replace h := z_t q7_2 h
      refine z_iconst hC (-1 : Int32) (by decide) dX0_kindAt_19 ?_
      obtain rfl := z_so h
      exact z_iret hC hQ dX0_kindAt_20
    · replace h := z_f q7_2 h
      refine z_aload_n hC 0 rfl rfl dX0_kindAt_10 ?_
      refine gX0_0 hC hk_k0 kf_X0_9 dX0_kindAt_11 ?_
      refine z_iload_n hC 1 rfl rfl dX0_kindAt_14 ?_
      refine z_g h (fun g15_3 h => ?_)
      refine z_iald hC (21 + 4 * k0 + 1) ⟨by omega, by omega⟩ (zS_k1 hk_k0 _ _) g15_3 (gi σ (21 + 4 * k0 + 1) a1.toNatClampNeg) rfl dX0_kindAt_15 ?_
      refine z_goto hC 20 (by decide) dX0_kindAt_16 ?_
      obtain rfl := z_so h
      exact z_iret hC hQ dX0_kindAt_20
set_option maxRecDepth 100000 in
theorem ctX0_kindAt {l : Launch} {G : zGt} {mk : zSt → zSt} (hm : zM mk 0 61) {k0 : Nat} {a1 : Int32} {σ : zSt} {r : Int32} (h : fX0_kindAt k0 a1 σ = some r) : zMet l G mk yX0_kindAt cX0_kindAt 2 (some .int) 0 0 [.ref (gA G (21 + 4 * k0)), .int a1] σ (some (.int r)) σ := by
  unfold fX0_kindAt at h
  refine z_g h (fun hk_k0 h => ?_)
  refine zMet.of (plainFor_of_name (by decide +kernel)) hm (Nat.le_of_ble_eq_true rfl) (fun T eL eG eM hN hC hQ => ?_)
  subst eL; subst eG; subst eM
  refine z_sub [(0, .ref (zAd T (21 + 4 * k0))), (1, .int a1)] [0, 1] rfl ?_
  exact wX0_kindAt_0 hC hN hQ _ _ hk_k0 h
noncomputable def fX0_detailAt_0 (k0 : Nat) (a1 : Int32) (σ : zSt) : Option Int64 := 
    (if a1 < 0 then some (0 : Int64)
    else 
      (if (60 : Int32) ≤ a1 then some (0 : Int64)
      else zg (vp_in a1 60) <| some (gl σ (21 + 4 * k0 + 2) a1.toNatClampNeg)))
noncomputable def fX0_detailAt (k0 : Nat) (a1 : Int32) (σ : zSt) : Option Int64 := zg (k0 < 10) <| fX0_detailAt_0 k0 a1 σ
set_option maxRecDepth 100000 in
set_option maxHeartbeats 4000000 in
theorem wX0_detailAt_0 {T : zX} {σ : zSt} (hC : zOk T cX0_detailAt RX0 0 0 0 61) (hN : zNL T = 2) {r : Int64} (hQ : zRes T (some .long) (some (.long r)) σ) (k0 : Nat) (a1 : Int32) (hk_k0 : k0 < 10) (h : fX0_detailAt_0 k0 a1 σ = some r) : Z T σ 0 [(0, .ref (zAd T (21 + 4 * k0))), (1, .int a1)] [] := by
  unfold fX0_detailAt_0 at h
  refine z_iload_n hC 1 rfl rfl dX0_detailAt_0 ?_
  refine z_if_lt hC 19 (by decide) dX0_detailAt_1 (fun q1_1 => ?_) (fun q1_1 => ?_)
  · replace h := z_t q1_1 h
    refine z_lconst hC (0 : Int64) (by decide) dX0_detailAt_19 ?_
    obtain rfl := z_so h
    exact z_lret hC hQ dX0_detailAt_20
  · replace h := z_f q1_1 h
    refine z_iload_n hC 1 rfl rfl dX0_detailAt_4 ?_
    refine z_bipush hC (60 : Int32) (by decide) dX0_detailAt_5 ?_
    refine z_icmp_ge hC 19 (by decide) dX0_detailAt_7 (fun q7_2 => ?_) (fun q7_2 => ?_)
    · replace h := z_t q7_2 h
      refine z_lconst hC (0 : Int64) (by decide) dX0_detailAt_19 ?_
      obtain rfl := z_so h
      exact z_lret hC hQ dX0_detailAt_20
    · replace h := z_f q7_2 h
      refine z_aload_n hC 0 rfl rfl dX0_detailAt_10 ?_
      refine gX0_1 hC hk_k0 kf_X0_15 dX0_detailAt_11 ?_
      refine z_iload_n hC 1 rfl rfl dX0_detailAt_14 ?_
      refine z_g h (fun g15_3 h => ?_)
      refine z_lald hC (21 + 4 * k0 + 2) ⟨by omega, by omega⟩ (zS_k2 hk_k0 _ _) g15_3 (gl σ (21 + 4 * k0 + 2) a1.toNatClampNeg) rfl dX0_detailAt_15 ?_
      refine z_goto hC 20 (by decide) dX0_detailAt_16 ?_
      obtain rfl := z_so h
      exact z_lret hC hQ dX0_detailAt_20
set_option maxRecDepth 100000 in
theorem ctX0_detailAt {l : Launch} {G : zGt} {mk : zSt → zSt} (hm : zM mk 0 61) {k0 : Nat} {a1 : Int32} {σ : zSt} {r : Int64} (h : fX0_detailAt k0 a1 σ = some r) : zMet l G mk yX0_detailAt cX0_detailAt 2 (some .long) 0 0 [.ref (gA G (21 + 4 * k0)), .int a1] σ (some (.long r)) σ := by
  unfold fX0_detailAt at h
  refine z_g h (fun hk_k0 h => ?_)
  refine zMet.of (plainFor_of_name (by decide +kernel)) hm (Nat.le_of_ble_eq_true rfl) (fun T eL eG eM hN hC hQ => ?_)
  subst eL; subst eG; subst eM
  refine z_sub [(0, .ref (zAd T (21 + 4 * k0))), (1, .int a1)] [0, 1] rfl ?_
  exact wX0_detailAt_0 hC hN hQ _ _ hk_k0 h
noncomputable def fX0_leftAt_0 (k0 : Nat) (a1 : Int32) (σ : zSt) : Option Int32 := 
    (if a1 < 0 then some (-1 : Int32)
    else 
      (if (60 : Int32) ≤ a1 then some (-1 : Int32)
      else zg (vp_in a1 60) <| some (gi σ (21 + 4 * k0 + 3) a1.toNatClampNeg)))
noncomputable def fX0_leftAt (k0 : Nat) (a1 : Int32) (σ : zSt) : Option Int32 := zg (k0 < 10) <| fX0_leftAt_0 k0 a1 σ
set_option maxRecDepth 100000 in
set_option maxHeartbeats 4000000 in
theorem wX0_leftAt_0 {T : zX} {σ : zSt} (hC : zOk T cX0_leftAt RX0 0 0 0 61) (hN : zNL T = 2) {r : Int32} (hQ : zRes T (some .int) (some (.int r)) σ) (k0 : Nat) (a1 : Int32) (hk_k0 : k0 < 10) (h : fX0_leftAt_0 k0 a1 σ = some r) : Z T σ 0 [(0, .ref (zAd T (21 + 4 * k0))), (1, .int a1)] [] := by
  unfold fX0_leftAt_0 at h
  refine z_iload_n hC 1 rfl rfl dX0_leftAt_0 ?_
  refine z_if_lt hC 19 (by decide) dX0_leftAt_1 (fun q1_1 => ?_) (fun q1_1 => ?_)
  · replace h := z_t q1_1 h
    refine z_iconst hC (-1 : Int32) (by decide) dX0_leftAt_19 ?_
    obtain rfl := z_so h
    exact z_iret hC hQ dX0_leftAt_20
  · replace h := z_f q1_1 h
    refine z_iload_n hC 1 rfl rfl dX0_leftAt_4 ?_
    refine z_bipush hC (60 : Int32) (by decide) dX0_leftAt_5 ?_
    refine z_icmp_ge hC 19 (by decide) dX0_leftAt_7 (fun q7_2 => ?_) (fun q7_2 => ?_)
    · replace h := z_t q7_2 h
      refine z_iconst hC (-1 : Int32) (by decide) dX0_leftAt_19 ?_
      obtain rfl := z_so h
      exact z_iret hC hQ dX0_leftAt_20
    · replace h := z_f q7_2 h
      refine z_aload_n hC 0 rfl rfl dX0_leftAt_10 ?_
      refine gX0_2 hC hk_k0 kf_X0_19 dX0_leftAt_11 ?_
      refine z_iload_n hC 1 rfl rfl dX0_leftAt_14 ?_
      refine z_g h (fun g15_3 h => ?_)
      refine z_iald hC (21 + 4 * k0 + 3) ⟨by omega, by omega⟩ (zS_k3 hk_k0 _ _) g15_3 (gi σ (21 + 4 * k0 + 3) a1.toNatClampNeg) rfl dX0_leftAt_15 ?_
      refine z_goto hC 20 (by decide) dX0_leftAt_16 ?_
      obtain rfl := z_so h
      exact z_iret hC hQ dX0_leftAt_20
set_option maxRecDepth 100000 in
theorem ctX0_leftAt {l : Launch} {G : zGt} {mk : zSt → zSt} (hm : zM mk 0 61) {k0 : Nat} {a1 : Int32} {σ : zSt} {r : Int32} (h : fX0_leftAt k0 a1 σ = some r) : zMet l G mk yX0_leftAt cX0_leftAt 2 (some .int) 0 0 [.ref (gA G (21 + 4 * k0)), .int a1] σ (some (.int r)) σ := by
  unfold fX0_leftAt at h
  refine z_g h (fun hk_k0 h => ?_)
  refine zMet.of (plainFor_of_name (by decide +kernel)) hm (Nat.le_of_ble_eq_true rfl) (fun T eL eG eM hN hC hQ => ?_)
  subst eL; subst eG; subst eM
  refine z_sub [(0, .ref (zAd T (21 + 4 * k0))), (1, .int a1)] [0, 1] rfl ?_
  exact wX0_leftAt_0 hC hN hQ _ _ hk_k0 h
noncomputable def fX8_middleOf_0 (a0 : Int32) (a1 : Int32) : Int32 := nm (Int64.toInt32 (jshrL ((Int32.toInt64 a0) + (Int32.toInt64 a1)) (1 : Int32))) fun x7_1 => x7_1
noncomputable def fX8_middleOf (a0 : Int32) (a1 : Int32) : Int32 := fX8_middleOf_0 a0 a1
set_option maxRecDepth 100000 in
set_option maxHeartbeats 4000000 in
theorem wX8_middleOf_0 {T : zX} {cl ch : Nat} {σ : zSt} (hC : zOk T cX8_middleOf RX8 0 0 cl ch) (hN : zNL T = 2) {r : Int32} (hQ : zRes T (some .int) (some (.int r)) σ) (a0 : Int32) (a1 : Int32)  (h : fX8_middleOf_0 a0 a1  = r) : Z T σ 0 [(0, .int a0), (1, .int a1)] [] := by
  unfold fX8_middleOf_0 at h
  refine z_iload_n hC 0 rfl rfl dX8_middleOf_0 ?_
  refine z_i2l hC dX8_middleOf_1 ?_
  refine z_iload_n hC 1 rfl rfl dX8_middleOf_2 ?_
  refine z_i2l hC dX8_middleOf_3 ?_
  refine z_ladd hC dX8_middleOf_4 ?_
  refine z_iconst hC (1 : Int32) (by decide) dX8_middleOf_5 ?_
  refine z_lshr hC dX8_middleOf_6 ?_
  refine z_l2i hC dX8_middleOf_7 ?_
  refine z_nmI h (fun x7_1 h => ?_)
  subst h
  exact z_iret hC hQ dX8_middleOf_8
set_option maxRecDepth 100000 in
theorem ctX8_middleOf {l : Launch} {G : zGt} {mk : zSt → zSt} {cl ch : Nat} (hm : zM mk cl ch) {a0 : Int32} {a1 : Int32} {σ : zSt} : zMet l G mk yX8_middleOf cX8_middleOf 2 (some .int) 0 0 [.int a0, .int a1] σ (some (.int (fX8_middleOf a0 a1 ))) σ := by

  refine zMet.of (plainFor_of_name (by decide +kernel)) hm (Nat.le_of_ble_eq_true rfl) (fun T eL eG eM hN hC hQ => ?_)
  subst eL; subst eG; subst eM
  refine z_sub [(0, .int a0), (1, .int a1)] [0, 1] rfl ?_
  exact wX8_middleOf_0 hC hN hQ _ _  rfl
noncomputable def fX6_byteAt_0 (a1 : Int32) (σ : zSt) : Option Int32 := 
    (if a1 < 0 then some (-1 : Int32)
    else 
      (if (gi σ 2 1) ≤ a1 then some (-1 : Int32)
      else 
        (if (200 : Int32) ≤ a1 then some (-1 : Int32)
        else zg (vp_in a1 200) <| some (gi σ 6 a1.toNatClampNeg))))
noncomputable def fX6_byteAt (a1 : Int32) (σ : zSt) : Option Int32 := fX6_byteAt_0 a1 σ
set_option maxRecDepth 100000 in
set_option maxHeartbeats 4000000 in
theorem wX6_byteAt_0 {T : zX} {σ : zSt} (hC : zOk T cX6_byteAt RX6 0 0 0 61) (hN : zNL T = 2) {r : Int32} (hQ : zRes T (some .int) (some (.int r)) σ) (a1 : Int32)  (h : fX6_byteAt_0 a1 σ = some r) : Z T σ 0 [(0, .ref (zAd T (2))), (1, .int a1)] [] := by
  unfold fX6_byteAt_0 at h
  refine z_iload_n hC 1 rfl rfl dX6_byteAt_0 ?_
  refine z_if_lt hC 30 (by decide) dX6_byteAt_1 (fun q1_1 => ?_) (fun q1_1 => ?_)
  · replace h := z_t q1_1 h
    refine z_iconst hC (-1 : Int32) (by decide) dX6_byteAt_30 ?_
    obtain rfl := z_so h
    exact z_iret hC hQ dX6_byteAt_31
  · replace h := z_f q1_1 h
    refine z_iload_n hC 1 rfl rfl dX6_byteAt_4 ?_
    refine z_aload_n hC 0 rfl rfl dX6_byteAt_5 ?_
    refine gX6_1 hC kf_X6_15 (gi σ 2 1) rfl dX6_byteAt_6 ?_
    refine z_icmp_ge hC 30 (by decide) dX6_byteAt_9 (fun q9_2 => ?_) (fun q9_2 => ?_)
    · replace h := z_t q9_2 h
      refine z_iconst hC (-1 : Int32) (by decide) dX6_byteAt_30 ?_
      obtain rfl := z_so h
      exact z_iret hC hQ dX6_byteAt_31
    · replace h := z_f q9_2 h
      refine z_iload_n hC 1 rfl rfl dX6_byteAt_12 ?_
      refine z_aload_n hC 0 rfl rfl dX6_byteAt_13 ?_
      refine gX6_0 hC kf_X6_9 dX6_byteAt_14 ?_
      refine z_alen hC 6 0 (by decide) (fun f g => ⟨_, zS_6 _ f g, rfl⟩) rfl (200 : Int32) (by decide) dX6_byteAt_17 ?_
      refine z_icmp_ge hC 30 (by decide) dX6_byteAt_18 (fun q18_3 => ?_) (fun q18_3 => ?_)
      · replace h := z_t q18_3 h
        refine z_iconst hC (-1 : Int32) (by decide) dX6_byteAt_30 ?_
        obtain rfl := z_so h
        exact z_iret hC hQ dX6_byteAt_31
      · replace h := z_f q18_3 h
        refine z_aload_n hC 0 rfl rfl dX6_byteAt_21 ?_
        refine gX6_0 hC kf_X6_9 dX6_byteAt_22 ?_
        refine z_iload_n hC 1 rfl rfl dX6_byteAt_25 ?_
        refine z_g h (fun g26_4 h => ?_)
        refine z_iald hC 6 ⟨by decide, by decide⟩ (zS_6 _ _ _) g26_4 (gi σ 6 a1.toNatClampNeg) rfl dX6_byteAt_26 ?_
        refine z_goto hC 31 (by decide) dX6_byteAt_27 ?_
        obtain rfl := z_so h
        exact z_iret hC hQ dX6_byteAt_31
set_option maxRecDepth 100000 in
theorem ctX6_byteAt {l : Launch} {G : zGt} {mk : zSt → zSt} (hm : zM mk 0 61) {a1 : Int32} {σ : zSt} {r : Int32} (h : fX6_byteAt a1 σ = some r) : zMet l G mk yX6_byteAt cX6_byteAt 2 (some .int) 0 0 [.ref (gA G (2)), .int a1] σ (some (.int r)) σ := by
  unfold fX6_byteAt at h

  refine zMet.of (plainFor_of_name (by decide +kernel)) hm (Nat.le_of_ble_eq_true rfl) (fun T eL eG eM hN hC hQ => ?_)
  subst eL; subst eG; subst eM
  refine z_sub [(0, .ref (zAd T (2))), (1, .int a1)] [0, 1] rfl ?_
  exact wX6_byteAt_0 hC hN hQ _  h
noncomputable def fX6_take_3 (K3 : Int32 → Int32 → zSt → Option zSt) (v1 : Int32) (v2 : Int32) (σ : zSt) : Option zSt := 
    (if v2 < 0 then some σ
    else 
      (if (gi σ 2 1) < 0 then nm (v2 + (-8 : Int32)) fun x52_3 => K3 v1 x52_3 σ
      else 
        (if (200 : Int32) ≤ (gi σ 2 1) then nm (v2 + (-8 : Int32)) fun x52_5 => K3 v1 x52_5 σ
        else zg (vp_in (gi σ 2 1) 200) <| nm (v2 + (-8 : Int32)) fun x52_7 => K3 v1 x52_7 (si (si σ 6 (gi σ 2 1).toNatClampNeg ((jushrI v1 v2) &&& (255 : Int32))) 2 1 ((gi σ 2 1) + (1 : Int32))))))
noncomputable def fX6_take_L3 : Nat → Int32 → Int32 → zSt → Option zSt
  | 0, _, _, _ => none
  | n + 1, v1, v2, σ => fX6_take_3 (fX6_take_L3 n) v1 v2 σ
noncomputable def fX6_take_0 (a1 : Int32) (σ : zSt) : Option zSt := fX6_take_L3 zFU a1 (24 : Int32) σ
noncomputable def fX6_take (a1 : Int32) (σ : zSt) : Option zSt := fX6_take_0 a1 σ
set_option maxRecDepth 100000 in
set_option maxHeartbeats 4000000 in
theorem wX6_take_3 {T : zX} (hC : zOk T cX6_take RX6 0 0 0 61) (hN : zNL T = 3) {σ' : zSt} (hQ : zRes T none (none) σ') (K3 : Int32 → Int32 → zSt → Option zSt) (hK3 : ∀ (v1 : Int32) (v2 : Int32) (τ : zSt), K3 v1 v2 τ = some σ' → Z T τ 3 [(0, .ref (zAd T (2))), (1, .int v1), (2, .int v2)] []) (v1 : Int32) (v2 : Int32)  (σ : zSt) (h : fX6_take_3 K3 v1 v2 σ = some σ') : Z T σ 3 [(0, .ref (zAd T (2))), (1, .int v1), (2, .int v2)] [] := by
  unfold fX6_take_3 at h
  refine z_iload_n hC 2 rfl rfl dX6_take_3 ?_
  refine z_if_lt hC 58 (by decide) dX6_take_4 (fun q4_1 => ?_) (fun q4_1 => ?_)
  · replace h := z_t q4_1 h
    obtain rfl := z_so h
    exact z_vret hC hQ dX6_take_58
  · replace h := z_f q4_1 h
    refine z_aload_n hC 0 rfl rfl dX6_take_7 ?_
    refine gX6_1 hC kf_X6_15 (gi σ 2 1) rfl dX6_take_8 ?_
    refine z_if_lt hC 52 (by decide) dX6_take_11 (fun q11_2 => ?_) (fun q11_2 => ?_)
    · replace h := z_t q11_2 h
      refine z_nmE h (fun x52_3 e_x52_3 h => ?_)
      refine z_iinc hC x52_3 [(2, .int x52_3), (0, .ref (zAd T (2))), (1, .int v1)] 2 rfl (by rw [e_x52_3]; rfl) (by rw [hN]; decide) rfl dX6_take_52 ?_
      refine z_goto hC 3 (by decide) dX6_take_55 ?_
      refine z_sub [(0, .ref (zAd T (2))), (1, .int v1), (2, .int x52_3)] [1, 2, 0] rfl ?_
      exact hK3 _ _ _ h
    · replace h := z_f q11_2 h
      refine z_aload_n hC 0 rfl rfl dX6_take_14 ?_
      refine gX6_1 hC kf_X6_15 (gi σ 2 1) rfl dX6_take_15 ?_
      refine z_aload_n hC 0 rfl rfl dX6_take_18 ?_
      refine gX6_0 hC kf_X6_9 dX6_take_19 ?_
      refine z_alen hC 6 0 (by decide) (fun f g => ⟨_, zS_6 _ f g, rfl⟩) rfl (200 : Int32) (by decide) dX6_take_22 ?_
      refine z_icmp_ge hC 52 (by decide) dX6_take_23 (fun q23_4 => ?_) (fun q23_4 => ?_)
      · replace h := z_t q23_4 h
        refine z_nmE h (fun x52_5 e_x52_5 h => ?_)
        refine z_iinc hC x52_5 [(2, .int x52_5), (0, .ref (zAd T (2))), (1, .int v1)] 2 rfl (by rw [e_x52_5]; rfl) (by rw [hN]; decide) rfl dX6_take_52 ?_
        refine z_goto hC 3 (by decide) dX6_take_55 ?_
        refine z_sub [(0, .ref (zAd T (2))), (1, .int v1), (2, .int x52_5)] [1, 2, 0] rfl ?_
        exact hK3 _ _ _ h
      · replace h := z_f q23_4 h
        refine z_aload_n hC 0 rfl rfl dX6_take_26 ?_
        refine gX6_0 hC kf_X6_9 dX6_take_27 ?_
        refine z_aload_n hC 0 rfl rfl dX6_take_30 ?_
        refine gX6_1 hC kf_X6_15 (gi σ 2 1) rfl dX6_take_31 ?_
        refine z_iload_n hC 1 rfl rfl dX6_take_34 ?_
        refine z_iload_n hC 2 rfl rfl dX6_take_35 ?_
        refine z_iushr hC dX6_take_36 ?_
        refine z_sipush hC (255 : Int32) (by decide) dX6_take_37 ?_
        refine z_iand hC dX6_take_40 ?_
        refine z_g h (fun g41_6 h => ?_)
        refine z_iast hC 6 ⟨by decide, by decide⟩ (zS_6 _) g41_6 dX6_take_41 ?_
        refine z_aload_n hC 0 rfl rfl dX6_take_42 ?_
        refine z_dup hC rfl dX6_take_43 ?_
        refine gX6_1 hC kf_X6_15 (gi σ 2 1) rfl dX6_take_44 ?_
        refine z_iconst hC (1 : Int32) (by decide) dX6_take_47 ?_
        refine z_iadd hC dX6_take_48 ?_
        refine pX6_1 hC kf_X6_15 dX6_take_49 ?_
        refine z_nmE h (fun x52_7 e_x52_7 h => ?_)
        refine z_iinc hC x52_7 [(2, .int x52_7), (0, .ref (zAd T (2))), (1, .int v1)] 2 rfl (by rw [e_x52_7]; rfl) (by rw [hN]; decide) rfl dX6_take_52 ?_
        refine z_goto hC 3 (by decide) dX6_take_55 ?_
        refine z_sub [(0, .ref (zAd T (2))), (1, .int v1), (2, .int x52_7)] [1, 2, 0] rfl ?_
        exact hK3 _ _ _ h
theorem wX6_take_L3 {T : zX} (hC : zOk T cX6_take RX6 0 0 0 61) (hN : zNL T = 3) {σ' : zSt} (hQ : zRes T none (none) σ') (n : Nat) : ∀ (v1 : Int32) (v2 : Int32) (σ : zSt), fX6_take_L3 n v1 v2 σ = some σ' → Z T σ 3 [(0, .ref (zAd T (2))), (1, .int v1), (2, .int v2)] [] := by
  induction n with
  | zero => intro v1 v2 σ h; cases h
  | succ n ih => intro v1 v2 σ h; exact wX6_take_3 hC hN hQ (fX6_take_L3 n) ih v1 v2 σ h
set_option maxRecDepth 100000 in
set_option maxHeartbeats 4000000 in
theorem wX6_take_0 {T : zX} (hC : zOk T cX6_take RX6 0 0 0 61) (hN : zNL T = 3) {σ' : zSt} (hQ : zRes T none (none) σ') (a1 : Int32)  (σ : zSt) (h : fX6_take_0 a1 σ = some σ') : Z T σ 0 [(0, .ref (zAd T (2))), (1, .int a1)] [] := by
  unfold fX6_take_0 at h
  refine z_bipush hC (24 : Int32) (by decide) dX6_take_0 ?_
  refine z_istore_n hC [(2, .int (24 : Int32)), (0, .ref (zAd T (2))), (1, .int a1)] rfl (by rw [hN]; decide) rfl dX6_take_2 ?_
  refine z_sub [(0, .ref (zAd T (2))), (1, .int a1), (2, .int (24 : Int32))] [1, 2, 0] rfl ?_
  exact (wX6_take_L3 hC hN hQ zFU) _ _ _ h
set_option maxRecDepth 100000 in
theorem ctX6_take {l : Launch} {G : zGt} {mk : zSt → zSt} (hm : zM mk 0 61) {a1 : Int32} {σ : zSt} {σ' : zSt} (h : fX6_take a1 σ = some σ') : zMet l G mk yX6_take cX6_take 3 none 0 0 [.ref (gA G (2)), .int a1] σ (none) σ' := by
  unfold fX6_take at h

  refine zMet.of (plainFor_of_name (by decide +kernel)) hm (Nat.le_of_ble_eq_true rfl) (fun T eL eG eM hN hC hQ => ?_)
  subst eL; subst eG; subst eM
  refine z_sub [(0, .ref (zAd T (2))), (1, .int a1)] [0, 1] rfl ?_
  exact wX6_take_0 hC hN hQ _  _ h
