abbrev rmX5_holdsSomeOf : Room := { frames := 2, cells := 0, slots := 0, locals := 44 }
theorem in_X5_holdsSomeOf_X2 : ∀ w ∈ wsX20, w ∈ wsX5_holdsSomeOf := by decide +kernel
theorem w_X5_holdsSomeOf_f38 : Cond.fieldLink RX5 38 "DeltaNights$ChunkRow" "count" "I" ∈ wsX5_holdsSomeOf := by decide +kernel
theorem in_X5_holdsSomeOf_X5 : ∀ w ∈ wsX50, w ∈ wsX5_holdsSomeOf := by decide +kernel
theorem w_X5_holdsSomeOf_f16 : Cond.fieldLink RX5 16 "DeltaNights$Link" "holds" "LDeltaNights$ChunkRow;" ∈ wsX5_holdsSomeOf := by decide +kernel
set_option maxHeartbeats 4000000 in
set_option maxRecDepth 100000 in
theorem ct_X5_holdsSomeOf (l : Launch) (g : GG) (sz0 : Nat) {h : AH} {LE : Nat → Option Nat} {RK1 : Nat → Int → Nat} {RN : Nat → Int} {HK1 : Nat → Int → Nat} {HN : Nat → Int} {a0 : Nat} (hA0 : LKA g LE RK1 RN HK1 HN a0 h) {r ra : Nat} {fq : Int → Option Nat} {K : Int → Nat} {cn : Int} (hR2 : RW g r ra fq K cn h)  : CT l yX5_holdsSomeOf wsX5_holdsSomeOf rmX5_holdsSomeOf g sz0 [.ref a0, .ref r] h (fun v h' => v = some (.int (iI (bI (exN (fun q => exN (fun j => HK1 a0 j = K q) (HN a0)) cn)))) ∧ h' = h) := by
  refine CT.of (by decide +kernel) rfl [some (.ref a0), some (.ref r), none] rfl (Nat.le_of_ble_eq_true rfl) ?_
  intro p e s m args below meth c B hr hlk hnm
  obtain ⟨rr, rra, rh, rha, fq1, fq2, hl1, hl2, hl3⟩ := hA0
  have hn9 := hR2.2.2.1
  refine r_iconst B dX5_holdsSomeOf_0 ?_
  refine r_istore_n B dX5_holdsSomeOf_1 rfl (by decide) (lcat_v rfl rfl) ?_
  have loop2 : ∀ (nn : Nat) (q : Int), (0 ≤ q ∧ q ≤ cn) → (allN (fun q => ¬ exN (fun j => HK1 a0 j = K q) (HN a0)) q) → (cn - q).toNat < nn → WA p l e rmX5_holdsSomeOf s m args below meth c g sz0 3 (MQ below (QQ g sz0 (fun v h' => v = some (.int (iI (bI (exN (fun q => exN (fun j => HK1 a0 j = K q) (HN a0)) cn)))) ∧ h' = h)) args s rmX5_holdsSomeOf.cells rmX5_holdsSomeOf.slots (A0 sz0)) h 0 0 [some (.ref a0), some (.ref r), some (.int (iI (q)))] 2 [] := by
    intro nn
    induction nn with
    | zero => intro q i1 i2 hn; exact absurd hn (Nat.not_lt_zero _)
    | succ nn ih =>
      intro q i1 i2 hn
      refine r_iload_n B dX5_holdsSomeOf_2 rfl ?_
      refine r_aload_n B dX5_holdsSomeOf_3 rfl rfl ?_
      refine r_get (C := RX2) (T := TX2) (N := 2) (ci := 2) B dX5_holdsSomeOf_4 in_X5_holdsSomeOf_X2 rfl 1 (by decide) w_X5_holdsSomeOf_f38 rfl hR2.1 rfl ?_
      refine r_icmp_ge B dX5_holdsSomeOf_7 (tgt := 33) (by decide) (by omega) (by omega) (fun c7 => ?_) (fun c7 => ?_)
      · refine r_iconst B dX5_holdsSomeOf_33 ?_
        exact r_zret B hr hlk dX5_holdsSomeOf_34 (Nat.le_of_ble_eq_true rfl) (Nat.le_of_ble_eq_true rfl) (by first | exact nar_0 | exact nar_1 | exact nar_bI _) ⟨by rw [bI_f (show ¬ exN (fun q => exN (fun j => HK1 a0 j = K q) (HN a0)) cn from not_exN (by rw [show cn = q by omega]; exact i2))], rfl⟩
      · refine r_aload_n B dX5_holdsSomeOf_10 rfl rfl ?_
        refine r_get (C := RX5) (T := TX5) (N := 3) (ci := 5) B dX5_holdsSomeOf_11 in_X5_holdsSomeOf_X5 rfl 2 (by decide) w_X5_holdsSomeOf_f16 rfl hl1 rfl ?_
        refine r_aload_n B dX5_holdsSomeOf_14 rfl rfl ?_
        refine r_iload_n B dX5_holdsSomeOf_15 rfl ?_
        refine r_callV (n := 1) B dX5_holdsSomeOf_16 (ct_X2_chunkAt l g sz0 hR2 _ (by omega)) gX5_holdsSomeOf_X2_chunkAt rfl (by decide +kernel) ⟨Nat.le_of_ble_eq_true rfl, Nat.le_of_ble_eq_true rfl⟩ hR2.1 rfl rfl rfl (Nat.le_of_ble_eq_true rfl) (Nat.le_of_ble_eq_true rfl) (Nat.le_of_ble_eq_true rfl) (fun v h' hp => ?_)
        obtain ⟨hv, hh⟩ := hp
        subst v
        subst h'
        dsimp only [Option.toList, List.cons_append, List.nil_append]
        refine r_callV (n := 1) B dX5_holdsSomeOf_19 (ct_X2_has l g sz0 hl3 _) gX5_holdsSomeOf_X2_has rfl (by decide +kernel) ⟨Nat.le_of_ble_eq_true rfl, Nat.le_of_ble_eq_true rfl⟩ hl3.1 rfl rfl rfl (Nat.le_of_ble_eq_true rfl) (Nat.le_of_ble_eq_true rfl) (Nat.le_of_ble_eq_true rfl) (fun v h' hp => ?_)
        obtain ⟨hv, hh⟩ := hp
        subst v
        subst h'
        dsimp only [Option.toList, List.cons_append, List.nil_append]
        refine r_if_eq B dX5_holdsSomeOf_22 (tgt := 27) (by decide) (bI_rng _) (fun c22 => ?_) (fun c22 => ?_)
        · replace c22 := bI_0.mp c22
          refine r_iinc B dX5_holdsSomeOf_27 rfl (by decide) (lcat_v rfl rfl) ?_
          refine r_goto B dX5_holdsSomeOf_30 (tgt := 2) (by decide) ?_
          exact r_lv (lvLe_s rfl (lvLe_s rfl (lvLe_s rfl lvLe_nil))) (ih (q + 1) (by omega) ((allN_s i1.1).mpr ⟨i2, c22⟩) (by omega))
        · replace c22 := bI_n0.mp c22
          refine r_iconst B dX5_holdsSomeOf_25 ?_
          exact r_zret B hr hlk dX5_holdsSomeOf_26 (Nat.le_of_ble_eq_true rfl) (Nat.le_of_ble_eq_true rfl) (by first | exact nar_0 | exact nar_1 | exact nar_bI _) ⟨by rw [bI_t (show exN (fun q => exN (fun j => HK1 a0 j = K q) (HN a0)) cn from ⟨q, i1.1, by omega, c22⟩)], rfl⟩
  exact r_lv (lvLe_s rfl (lvLe_s rfl (lvLe_s rfl lvLe_nil))) (loop2 _ 0 (by omega) (allN_0 _) (Nat.lt_succ_self _))
abbrev rmX5_linkBytes : Room := { frames := 2, cells := 0, slots := 0, locals := 44 }
theorem in_X5_linkBytes_X5 : ∀ w ∈ wsX50, w ∈ wsX5_linkBytes := by decide +kernel
theorem w_X5_linkBytes_f10 : Cond.fieldLink RX5 10 "DeltaNights$Link" "row" "LDeltaNights$ChunkRow;" ∈ wsX5_linkBytes := by decide +kernel
theorem in_X5_linkBytes_X2 : ∀ w ∈ wsX20, w ∈ wsX5_linkBytes := by decide +kernel
theorem w_X5_linkBytes_f38 : Cond.fieldLink RX5 38 "DeltaNights$ChunkRow" "count" "I" ∈ wsX5_linkBytes := by decide +kernel
theorem w_X5_linkBytes_f16 : Cond.fieldLink RX5 16 "DeltaNights$Link" "holds" "LDeltaNights$ChunkRow;" ∈ wsX5_linkBytes := by decide +kernel
set_option maxHeartbeats 4000000 in
set_option maxRecDepth 100000 in
theorem ct_X5_linkBytes (l : Launch) (g : GG) (sz0 : Nat) {h : AH} {LE : Nat → Option Nat} {RK1 : Nat → Int → Nat} {RN : Nat → Int} {HK1 : Nat → Int → Nat} {HN : Nat → Int} {a0 : Nat} (hA0 : LKA g LE RK1 RN HK1 HN a0 h) {CA : Nat → Nat} {PV : Nat → Option Nat} {CF : Nat → Int → Int} {CN : Nat → Int} (hHK : RK g CA PV CF CN (HK1 a0) (HN a0) h) : CT l yX5_linkBytes wsX5_linkBytes rmX5_linkBytes g sz0 [.ref a0] h (fun v h' => v = some (.int (iI (RN a0 + sumZ (fun j => CN (HK1 a0 j)) (HN a0).toNat))) ∧ h' = h) := by
  refine CT.of (by decide +kernel) rfl [some (.ref a0)] rfl (Nat.le_of_ble_eq_true rfl) ?_
  intro p e s m args below meth c B hr hlk hnm
  obtain ⟨rr, rra, rh, rha, fq1, fq2, hl1, hl2, hl3⟩ := hA0
  refine r_aload_n B dX5_linkBytes_0 rfl rfl ?_
  refine r_get (C := RX5) (T := TX5) (N := 3) (ci := 5) B dX5_linkBytes_1 in_X5_linkBytes_X5 rfl 1 (by decide) w_X5_linkBytes_f10 rfl hl1 rfl ?_
  refine r_get (C := RX2) (T := TX2) (N := 2) (ci := 2) B dX5_linkBytes_4 in_X5_linkBytes_X2 rfl 1 (by decide) w_X5_linkBytes_f38 rfl hl2.1 rfl ?_
  refine r_aload_n B dX5_linkBytes_7 rfl rfl ?_
  refine r_get (C := RX5) (T := TX5) (N := 3) (ci := 5) B dX5_linkBytes_8 in_X5_linkBytes_X5 rfl 2 (by decide) w_X5_linkBytes_f16 rfl hl1 rfl ?_
  refine r_callV (n := 0) B dX5_linkBytes_11 (ct_X2_byteCount l g sz0 hl3 hHK) gX5_linkBytes_X2_byteCount rfl (by decide +kernel) ⟨Nat.le_of_ble_eq_true rfl, Nat.le_of_ble_eq_true rfl⟩ hl3.1 rfl rfl rfl (Nat.le_of_ble_eq_true rfl) (Nat.le_of_ble_eq_true rfl) (Nat.le_of_ble_eq_true rfl) (fun v h' hp => ?_)
  obtain ⟨hv, hh⟩ := hp
  subst v
  subst h'
  dsimp only [Option.toList, List.cons_append, List.nil_append]
  refine r_iadd B dX5_linkBytes_14 ?_
  exact r_iret B hr hlk dX5_linkBytes_15 (Nat.le_of_ble_eq_true rfl) (Nat.le_of_ble_eq_true rfl) ⟨rfl, rfl⟩
abbrev rmX5_bytesToRead : Room := { frames := 2, cells := 0, slots := 0, locals := 46 }
theorem in_X5_bytesToRead_X5 : ∀ w ∈ wsX50, w ∈ wsX5_bytesToRead := by decide +kernel
theorem w_X5_bytesToRead_f10 : Cond.fieldLink RX5 10 "DeltaNights$Link" "row" "LDeltaNights$ChunkRow;" ∈ wsX5_bytesToRead := by decide +kernel
theorem in_X5_bytesToRead_X2 : ∀ w ∈ wsX20, w ∈ wsX5_bytesToRead := by decide +kernel
theorem w_X5_bytesToRead_f38 : Cond.fieldLink RX5 38 "DeltaNights$ChunkRow" "count" "I" ∈ wsX5_bytesToRead := by decide +kernel
set_option maxHeartbeats 4000000 in
set_option maxRecDepth 100000 in
theorem ct_X5_bytesToRead (l : Launch) (g : GG) (sz0 : Nat) {h : AH} {LE : Nat → Option Nat} {RK1 : Nat → Int → Nat} {RN : Nat → Int} {HK1 : Nat → Int → Nat} {HN : Nat → Int} {a0 : Nat} (hA0 : LKA g LE RK1 RN HK1 HN a0 h) {CA : Nat → Nat} {PV : Nat → Option Nat} {CF : Nat → Int → Int} {CN : Nat → Int} (hRK : RK g CA PV CF CN (RK1 a0) (RN a0) h) : CT l yX5_bytesToRead wsX5_bytesToRead rmX5_bytesToRead g sz0 [.ref a0] h (fun v h' => v = some (.int (iI (RN a0 + sumZ (fun j => bI (¬ exN (fun i => RK1 a0 i = RK1 a0 j) j) * CN (RK1 a0 j)) (RN a0).toNat))) ∧ h' = h) := by
  refine CT.of (by decide +kernel) rfl [some (.ref a0)] rfl (Nat.le_of_ble_eq_true rfl) ?_
  intro p e s m args below meth c B hr hlk hnm
  obtain ⟨rr, rra, rh, rha, fq1, fq2, hl1, hl2, hl3⟩ := hA0
  refine r_aload_n B dX5_bytesToRead_0 rfl rfl ?_
  refine r_get (C := RX5) (T := TX5) (N := 3) (ci := 5) B dX5_bytesToRead_1 in_X5_bytesToRead_X5 rfl 1 (by decide) w_X5_bytesToRead_f10 rfl hl1 rfl ?_
  refine r_get (C := RX2) (T := TX2) (N := 2) (ci := 2) B dX5_bytesToRead_4 in_X5_bytesToRead_X2 rfl 1 (by decide) w_X5_bytesToRead_f38 rfl hl2.1 rfl ?_
  refine r_aload_n B dX5_bytesToRead_7 rfl rfl ?_
  refine r_get (C := RX5) (T := TX5) (N := 3) (ci := 5) B dX5_bytesToRead_8 in_X5_bytesToRead_X5 rfl 1 (by decide) w_X5_bytesToRead_f10 rfl hl1 rfl ?_
  refine r_callV (n := 0) B dX5_bytesToRead_11 (ct_X2_unlikeByteCount l g sz0 hl2 hRK) gX5_bytesToRead_X2_unlikeByteCount rfl (by decide +kernel) ⟨Nat.le_of_ble_eq_true rfl, Nat.le_of_ble_eq_true rfl⟩ hl2.1 rfl rfl rfl (Nat.le_of_ble_eq_true rfl) (Nat.le_of_ble_eq_true rfl) (Nat.le_of_ble_eq_true rfl) (fun v h' hp => ?_)
  obtain ⟨hv, hh⟩ := hp
  subst v
  subst h'
  dsimp only [Option.toList, List.cons_append, List.nil_append]
  refine r_iadd B dX5_bytesToRead_14 ?_
  exact r_iret B hr hlk dX5_bytesToRead_15 (Nat.le_of_ble_eq_true rfl) (Nat.le_of_ble_eq_true rfl) ⟨rfl, rfl⟩
abbrev rmX5_differencesUpToHere : Room := { frames := 0, cells := 0, slots := 0, locals := 0 }
theorem in_X5_differencesUpToHere_X5 : ∀ w ∈ wsX50, w ∈ wsX5_differencesUpToHere := by decide +kernel
theorem w_X5_differencesUpToHere_f19 : Cond.fieldLink RX5 19 "DeltaNights$Link" "earlier" "LDeltaNights$Link;" ∈ wsX5_differencesUpToHere := by decide +kernel
set_option maxHeartbeats 4000000 in
set_option maxRecDepth 100000 in
theorem ct_X5_differencesUpToHere (l : Launch) (g : GG) (sz0 : Nat) {h : AH} {LE : Nat → Option Nat} {RK1 : Nat → Int → Nat} {RN : Nat → Int} {HK1 : Nat → Int → Nat} {HN : Nat → Int} {La : Int → Nat} {len : Int} (hCH : CHN g LE RK1 RN HK1 HN La len h) (hlen : 0 < len) : CT l yX5_differencesUpToHere wsX5_differencesUpToHere rmX5_differencesUpToHere g sz0 [.ref (La 0)] h (fun v h' => v = some (.int (iI (len - 1))) ∧ h' = h) := by
  refine CT.of (by decide +kernel) rfl [some (.ref (La 0)), none, none] rfl (Nat.le_of_ble_eq_true rfl) ?_
  intro p e s m args below meth c B hr hlk hnm
  obtain ⟨hl00, r0, r0a, s0, s0a, fa1, fa2, hm1, hm2, hm3⟩ := hCH 0 (by omega) hlen
  refine r_iconst B dX5_differencesUpToHere_0 ?_
  refine r_istore_n B dX5_differencesUpToHere_1 rfl (by decide) (lcat_v rfl rfl) ?_
  refine r_aload_n B dX5_differencesUpToHere_2 rfl rfl ?_
  refine r_get (C := RX5) (T := TX5) (N := 3) (ci := 5) B dX5_differencesUpToHere_3 in_X5_differencesUpToHere_X5 rfl 0 (by decide) w_X5_differencesUpToHere_f19 rfl hm1 rfl ?_
  refine r_topv hl00 ?_
  refine r_astore_n B dX5_differencesUpToHere_6 rfl (va_rf_isRef _) (by decide) (lcat_v rfl rfl) ?_
  have loop7 : ∀ (nn : Nat) (q : Int), (0 ≤ q ∧ q ≤ len - 1) → (len - q).toNat < nn → WA p l e rmX5_differencesUpToHere s m args below meth c g sz0 3 (MQ below (QQ g sz0 (fun v h' => v = some (.int (iI (len - 1))) ∧ h' = h)) args s rmX5_differencesUpToHere.cells rmX5_differencesUpToHere.slots (A0 sz0)) h 0 0 [some (.ref (La 0)), some (.int (iI (q))), some (va_rf (ptr La len (q + 1)))] 7 [] := by
    intro nn
    induction nn with
    | zero => intro q i1 hn; exact absurd hn (Nat.not_lt_zero _)
    | succ nn ih =>
      intro q i1 hn
      refine r_aload_n B dX5_differencesUpToHere_7 rfl (va_rf_isRef _) ?_
      refine r_ifnull B dX5_differencesUpToHere_8 (tgt := 22) (by decide) (fun c8 => ?_) (fun a8 c8 => ?_)
      · refine r_iload_n B dX5_differencesUpToHere_22 rfl ?_
        exact r_iret B hr hlk dX5_differencesUpToHere_23 (Nat.le_of_ble_eq_true rfl) (Nat.le_of_ble_eq_true rfl) ⟨by rw [show q = len - 1 by have := ptr_none c8; omega], rfl⟩
      · have hq9 := ptr_some c8
        obtain ⟨hl0, rr, rra, rh, rha, fq1, fq2, hl1, hl2, hl3⟩ := hCH (q + 1) (by omega) hq9
        refine r_iinc B dX5_differencesUpToHere_11 rfl (by decide) (lcat_v rfl rfl) ?_
        refine r_aload_n B dX5_differencesUpToHere_14 rfl (va_rf_isRef _) ?_
        refine r_topr (ptr_in (ptr_some c8)) ?_
        refine r_get (C := RX5) (T := TX5) (N := 3) (ci := 5) B dX5_differencesUpToHere_15 in_X5_differencesUpToHere_X5 rfl 0 (by decide) w_X5_differencesUpToHere_f19 rfl hl1 rfl ?_
        refine r_topv hl0 ?_
        refine r_astore_n B dX5_differencesUpToHere_18 rfl (va_rf_isRef _) (by decide) (lcat_v rfl rfl) ?_
        refine r_goto B dX5_differencesUpToHere_19 (tgt := 7) (by decide) ?_
        exact r_lv (lvLe_s rfl (lvLe_s rfl (lvLe_s rfl lvLe_nil))) (ih (q + 1) (by omega) (by omega))
  exact r_lv (lvLe_s rfl (lvLe_s rfl (lvLe_s rfl lvLe_nil))) (loop7 _ 0 (by omega) (Nat.lt_succ_self _))
abbrev rmX5_linksToMount : Room := { frames := 3, cells := 0, slots := 0, locals := 66 }
theorem in_X5_linksToMount_X5 : ∀ w ∈ wsX50, w ∈ wsX5_linksToMount := by decide +kernel
theorem w_X5_linksToMount_f19 : Cond.fieldLink RX5 19 "DeltaNights$Link" "earlier" "LDeltaNights$Link;" ∈ wsX5_linksToMount := by decide +kernel
theorem w_X5_linksToMount_f10 : Cond.fieldLink RX5 10 "DeltaNights$Link" "row" "LDeltaNights$ChunkRow;" ∈ wsX5_linksToMount := by decide +kernel
set_option maxHeartbeats 4000000 in
set_option maxRecDepth 100000 in
theorem ct_X5_linksToMount (l : Launch) (g : GG) (sz0 : Nat) {h : AH} {LE : Nat → Option Nat} {RK1 : Nat → Int → Nat} {RN : Nat → Int} {HK1 : Nat → Int → Nat} {HN : Nat → Int} {La : Int → Nat} {len : Int} (hCH : CHN g LE RK1 RN HK1 HN La len h) (hlen : 0 < len) : CT l yX5_linksToMount wsX5_linksToMount rmX5_linksToMount g sz0 [.ref (La 0)] h (fun v h' => v = some (.int (iI (1 + sumZ (fun i => bI (exN (fun q => exN (fun j => HK1 (La (i + 1)) j = RK1 (La 0) q) (HN (La (i + 1)))) (RN (La 0)))) (len - 1).toNat))) ∧ h' = h) := by
  refine CT.of (by decide +kernel) rfl [some (.ref (La 0)), none, none] rfl (Nat.le_of_ble_eq_true rfl) ?_
  intro p e s m args below meth c B hr hlk hnm
  obtain ⟨hl00, r0, r0a, s0, s0a, fa1, fa2, hm1, hm2, hm3⟩ := hCH 0 (by omega) hlen
  refine r_iconst B dX5_linksToMount_0 ?_
  refine r_istore_n B dX5_linksToMount_1 rfl (by decide) (lcat_v rfl rfl) ?_
  refine r_aload_n B dX5_linksToMount_2 rfl rfl ?_
  refine r_get (C := RX5) (T := TX5) (N := 3) (ci := 5) B dX5_linksToMount_3 in_X5_linksToMount_X5 rfl 0 (by decide) w_X5_linksToMount_f19 rfl hm1 rfl ?_
  refine r_topv hl00 ?_
  refine r_astore_n B dX5_linksToMount_6 rfl (va_rf_isRef _) (by decide) (lcat_v rfl rfl) ?_
  have loop7 : ∀ (nn : Nat) (q : Int) (u : Int), (0 ≤ q ∧ q ≤ len - 1) → (u = 1 + sumZ (fun i => bI (exN (fun q => exN (fun j => HK1 (La (i + 1)) j = RK1 (La 0) q) (HN (La (i + 1)))) (RN (La 0)))) q.toNat) → (len - q).toNat < nn → WA p l e rmX5_linksToMount s m args below meth c g sz0 3 (MQ below (QQ g sz0 (fun v h' => v = some (.int (iI (1 + sumZ (fun i => bI (exN (fun q => exN (fun j => HK1 (La (i + 1)) j = RK1 (La 0) q) (HN (La (i + 1)))) (RN (La 0)))) (len - 1).toNat))) ∧ h' = h)) args s rmX5_linksToMount.cells rmX5_linksToMount.slots (A0 sz0)) h 0 0 [some (.ref (La 0)), some (.int (iI (u))), some (va_rf (ptr La len (q + 1)))] 7 [] := by
    intro nn
    induction nn with
    | zero => intro q u i1 i2 hn; exact absurd hn (Nat.not_lt_zero _)
    | succ nn ih =>
      intro q u i1 i2 hn
      refine r_aload_n B dX5_linksToMount_7 rfl (va_rf_isRef _) ?_
      refine r_ifnull B dX5_linksToMount_8 (tgt := 33) (by decide) (fun c8 => ?_) (fun a8 c8 => ?_)
      · refine r_iload_n B dX5_linksToMount_33 rfl ?_
        exact r_iret B hr hlk dX5_linksToMount_34 (Nat.le_of_ble_eq_true rfl) (Nat.le_of_ble_eq_true rfl) ⟨by rw [i2, show q = len - 1 by have := ptr_none c8; omega], rfl⟩
      · have hq9 := ptr_some c8
        obtain ⟨hl0, rr, rra, rh, rha, fq1, fq2, hl1, hl2, hl3⟩ := hCH (q + 1) (by omega) hq9
        have hla := (hCH (q + 1) (by omega) hq9).2
        refine r_aload_n B dX5_linksToMount_11 rfl (va_rf_isRef _) ?_
        refine r_topr (ptr_in (ptr_some c8)) ?_
        refine r_aload_n B dX5_linksToMount_12 rfl rfl ?_
        refine r_get (C := RX5) (T := TX5) (N := 3) (ci := 5) B dX5_linksToMount_13 in_X5_linksToMount_X5 rfl 1 (by decide) w_X5_linksToMount_f10 rfl hm1 rfl ?_
        refine r_callV (n := 1) B dX5_linksToMount_16 (ct_X5_holdsSomeOf l g sz0 hla hm2) gX5_linksToMount_X5_holdsSomeOf rfl (by decide +kernel) ⟨Nat.le_of_ble_eq_true rfl, Nat.le_of_ble_eq_true rfl⟩ hl1 rfl rfl rfl (Nat.le_of_ble_eq_true rfl) (Nat.le_of_ble_eq_true rfl) (Nat.le_of_ble_eq_true rfl) (fun v h' hp => ?_)
        obtain ⟨hv, hh⟩ := hp
        subst v
        subst h'
        dsimp only [Option.toList, List.cons_append, List.nil_append]
        refine r_if_eq B dX5_linksToMount_19 (tgt := 25) (by decide) (bI_rng _) (fun c19 => ?_) (fun c19 => ?_)
        · replace c19 := bI_0.mp c19
          refine r_aload_n B dX5_linksToMount_25 rfl (va_rf_isRef _) ?_
          refine r_topr (ptr_in (ptr_some c8)) ?_
          refine r_get (C := RX5) (T := TX5) (N := 3) (ci := 5) B dX5_linksToMount_26 in_X5_linksToMount_X5 rfl 0 (by decide) w_X5_linksToMount_f19 rfl hl1 rfl ?_
          refine r_topv hl0 ?_
          refine r_astore_n B dX5_linksToMount_29 rfl (va_rf_isRef _) (by decide) (lcat_v rfl rfl) ?_
          refine r_goto B dX5_linksToMount_30 (tgt := 7) (by decide) ?_
          exact r_lv (lvLe_s rfl (lvLe_s rfl (lvLe_s rfl lvLe_nil))) (ih (q + 1) _ (by omega) (by rw [sumZ_s _ i1.1, bI_f c19, i2]; omega) (by omega))
        · replace c19 := bI_n0.mp c19
          refine r_iinc B dX5_linksToMount_22 rfl (by decide) (lcat_v rfl rfl) ?_
          refine r_aload_n B dX5_linksToMount_25 rfl (va_rf_isRef _) ?_
          refine r_topr (ptr_in (ptr_some c8)) ?_
          refine r_get (C := RX5) (T := TX5) (N := 3) (ci := 5) B dX5_linksToMount_26 in_X5_linksToMount_X5 rfl 0 (by decide) w_X5_linksToMount_f19 rfl hl1 rfl ?_
          refine r_topv hl0 ?_
          refine r_astore_n B dX5_linksToMount_29 rfl (va_rf_isRef _) (by decide) (lcat_v rfl rfl) ?_
          refine r_goto B dX5_linksToMount_30 (tgt := 7) (by decide) ?_
          exact r_lv (lvLe_s rfl (lvLe_s rfl (lvLe_s rfl lvLe_nil))) (ih (q + 1) _ (by omega) (by rw [sumZ_s _ i1.1, bI_t c19, i2]; omega) (by omega))
  exact r_lv (lvLe_s rfl (lvLe_s rfl (lvLe_s rfl lvLe_nil))) (loop7 _ 0 _ (by omega) rfl (Nat.lt_succ_self _))
abbrev rmX5_fingerprintFromChain : Room := { frames := 3, cells := 0, slots := 0, locals := 66 }
theorem in_X5_fingerprintFromChain_X5 : ∀ w ∈ wsX50, w ∈ wsX5_fingerprintFromChain := by decide +kernel
theorem w_X5_fingerprintFromChain_f10 : Cond.fieldLink RX5 10 "DeltaNights$Link" "row" "LDeltaNights$ChunkRow;" ∈ wsX5_fingerprintFromChain := by decide +kernel
theorem in_X5_fingerprintFromChain_X2 : ∀ w ∈ wsX20, w ∈ wsX5_fingerprintFromChain := by decide +kernel
theorem w_X5_fingerprintFromChain_f38 : Cond.fieldLink RX5 38 "DeltaNights$ChunkRow" "count" "I" ∈ wsX5_fingerprintFromChain := by decide +kernel
set_option maxHeartbeats 4000000 in
set_option maxRecDepth 100000 in
theorem ct_X5_fingerprintFromChain (l : Launch) (g : GG) (sz0 : Nat) {h : AH} {LE : Nat → Option Nat} {RK1 : Nat → Int → Nat} {RN : Nat → Int} {HK1 : Nat → Int → Nat} {HN : Nat → Int} {La : Int → Nat} {len : Int} (hCH : CHN g LE RK1 RN HK1 HN La len h) {CA : Nat → Nat} {PV : Nat → Option Nat} {CF : Nat → Int → Int} {CN : Nat → Int} (hlen : 0 < len) (hRK : RK g CA PV CF CN (RK1 (La 0)) (RN (La 0)) h) (hall : ∀ j : Int, 0 ≤ j → j < RN (La 0) → chHas HK1 HN La len (RK1 (La 0) j)) : CT l yX5_fingerprintFromChain wsX5_fingerprintFromChain rmX5_fingerprintFromChain g sz0 [.ref (La 0)] h (fun v h' => v = some (.long (digK CF CN (RK1 (La 0)) (RN (La 0)).toNat)) ∧ h' = h) := by
  refine CT.of (by decide +kernel) rfl [some (.ref (La 0)), none, none, none, none] rfl (Nat.le_of_ble_eq_true rfl) ?_
  intro p e s m args below meth c B hr hlk hnm
  obtain ⟨hl00, r0, r0a, s0, s0a, fa1, fa2, hm1, hm2, hm3⟩ := hCH 0 (by omega) hlen
  have hn9 := hm2.2.2.1
  refine r_lconst B dX5_fingerprintFromChain_0 rfl ?_
  refine r_lstore_n B dX5_fingerprintFromChain_1 rfl (by decide) (lcat_v rfl rfl) ?_
  refine r_iconst B dX5_fingerprintFromChain_2 ?_
  refine r_istore_n B dX5_fingerprintFromChain_3 rfl (by decide) (lcat_n rfl) ?_
  have loop4 : ∀ (nn : Nat) (q : Int), (0 ≤ q ∧ q ≤ RN (La 0)) → (RN (La 0) - q).toNat < nn → WA p l e rmX5_fingerprintFromChain s m args below meth c g sz0 5 (MQ below (QQ g sz0 (fun v h' => v = some (.long (digK CF CN (RK1 (La 0)) (RN (La 0)).toNat)) ∧ h' = h)) args s rmX5_fingerprintFromChain.cells rmX5_fingerprintFromChain.slots (A0 sz0)) h 0 0 [some (.ref (La 0)), some (.long (digK CF CN (RK1 (La 0)) q.toNat)), none, some (.int (iI (q))), none] 4 [] := by
    intro nn
    induction nn with
    | zero => intro q i1 hn; exact absurd hn (Nat.not_lt_zero _)
    | succ nn ih =>
      intro q i1 hn
      refine r_iload_n B dX5_fingerprintFromChain_4 rfl ?_
      refine r_aload_n B dX5_fingerprintFromChain_5 rfl rfl ?_
      refine r_get (C := RX5) (T := TX5) (N := 3) (ci := 5) B dX5_fingerprintFromChain_6 in_X5_fingerprintFromChain_X5 rfl 1 (by decide) w_X5_fingerprintFromChain_f10 rfl hm1 rfl ?_
      refine r_get (C := RX2) (T := TX2) (N := 2) (ci := 2) B dX5_fingerprintFromChain_9 in_X5_fingerprintFromChain_X2 rfl 1 (by decide) w_X5_fingerprintFromChain_f38 rfl hm2.1 rfl ?_
      refine r_icmp_ge B dX5_fingerprintFromChain_12 (tgt := 52) (by decide) (by omega) (by omega) (fun c12 => ?_) (fun c12 => ?_)
      · refine r_lload_n B dX5_fingerprintFromChain_52 rfl ?_
        exact r_lret B hr hlk dX5_fingerprintFromChain_53 (Nat.le_of_ble_eq_true rfl) (Nat.le_of_ble_eq_true rfl) ⟨by rw [show RN (La 0) = q by omega], rfl⟩
      · refine r_aload_n B dX5_fingerprintFromChain_15 rfl rfl ?_
        refine r_get (C := RX5) (T := TX5) (N := 3) (ci := 5) B dX5_fingerprintFromChain_16 in_X5_fingerprintFromChain_X5 rfl 1 (by decide) w_X5_fingerprintFromChain_f10 rfl hm1 rfl ?_
        refine r_iload_n B dX5_fingerprintFromChain_19 rfl ?_
        refine r_callV (n := 1) B dX5_fingerprintFromChain_20 (ct_X2_chunkAt l g sz0 hm2 _ (by omega)) gX5_fingerprintFromChain_X2_chunkAt rfl (by decide +kernel) ⟨Nat.le_of_ble_eq_true rfl, Nat.le_of_ble_eq_true rfl⟩ hm2.1 rfl rfl rfl (Nat.le_of_ble_eq_true rfl) (Nat.le_of_ble_eq_true rfl) (Nat.le_of_ble_eq_true rfl) (fun v h' hp => ?_)
        obtain ⟨hv, hh⟩ := hp
        subst v
        subst h'
        dsimp only [Option.toList, List.cons_append, List.nil_append]
        have hck := hRK q i1.1 (by omega)
        refine r_astore B dX5_fingerprintFromChain_23 rfl (by decide) (lcat_v rfl rfl) ?_
        refine r_aload B dX5_fingerprintFromChain_25 rfl rfl ?_
        refine r_ifnull_r B dX5_fingerprintFromChain_27 ?_
        refine r_aload_n B dX5_fingerprintFromChain_30 rfl rfl ?_
        refine r_aload B dX5_fingerprintFromChain_31 rfl rfl ?_
        refine r_callV (n := 1) B dX5_fingerprintFromChain_33 (ct_X5_chainHolds l g sz0 hCH _ hlen) gX5_fingerprintFromChain_X5_chainHolds rfl (by decide +kernel) ⟨Nat.le_of_ble_eq_true rfl, Nat.le_of_ble_eq_true rfl⟩ hm1 rfl rfl rfl (Nat.le_of_ble_eq_true rfl) (Nat.le_of_ble_eq_true rfl) (Nat.le_of_ble_eq_true rfl) (fun v h' hp => ?_)
        obtain ⟨hv, hh⟩ := hp
        subst v
        subst h'
        dsimp only [Option.toList, List.cons_append, List.nil_append]
        refine r_if_eq B dX5_fingerprintFromChain_36 (tgt := 46) (by decide) (bI_rng _) (fun c36 => ?_) (fun c36 => ?_)
        · exact absurd (hall q i1.1 (by omega)) (bI_0.mp c36)
        · replace c36 := bI_n0.mp c36
          refine r_aload B dX5_fingerprintFromChain_39 rfl rfl ?_
          refine r_lload_n B dX5_fingerprintFromChain_41 rfl ?_
          refine r_callV (n := 1) B dX5_fingerprintFromChain_42 (ct_X1_foldedInto l g sz0 hck _) gX5_fingerprintFromChain_X1_foldedInto rfl (by decide +kernel) ⟨Nat.le_of_ble_eq_true rfl, Nat.le_of_ble_eq_true rfl⟩ hck.1 rfl rfl rfl (Nat.le_of_ble_eq_true rfl) (Nat.le_of_ble_eq_true rfl) (Nat.le_of_ble_eq_true rfl) (fun v h' hp => ?_)
          obtain ⟨hv, hh⟩ := hp
          subst v
          subst h'
          dsimp only [Option.toList, List.cons_append, List.nil_append]
          refine r_lstore_n B dX5_fingerprintFromChain_45 rfl (by decide) (lcat_v rfl rfl) ?_
          refine r_iinc B dX5_fingerprintFromChain_46 rfl (by decide) (lcat_n rfl) ?_
          refine r_goto B dX5_fingerprintFromChain_49 (tgt := 4) (by decide) ?_
          rw [← digK_s _ _ _ i1.1]
          exact r_lv (lvLe_s rfl (lvLe_s rfl (lvLe_n (lvLe_s rfl (lvLe_n lvLe_nil))))) (ih (q + 1) (by omega) (by omega))
  exact r_lv (lvLe_s rfl (lvLe_s rfl (lvLe_n (lvLe_s rfl (lvLe_n lvLe_nil))))) (loop4 _ 0 (by omega) (Nat.lt_succ_self _))
