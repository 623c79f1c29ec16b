abbrev rmX2_chunkAt : Room := { frames := 0, cells := 0, slots := 0, locals := 0 }
theorem in_X2_chunkAt_X2 : ∀ w ∈ wsX20, w ∈ wsX2_chunkAt := by decide +kernel
theorem w_X2_chunkAt_f17 : Cond.fieldLink RX2 17 "DeltaNights$ChunkRow" "count" "I" ∈ wsX2_chunkAt := by decide +kernel
theorem w_X2_chunkAt_f11 : Cond.fieldLink RX2 11 "DeltaNights$ChunkRow" "chunks" "[LDeltaNights$Chunk;" ∈ wsX2_chunkAt := by decide +kernel
set_option maxHeartbeats 4000000 in
set_option maxRecDepth 100000 in
theorem ct_X2_chunkAt (l : Launch) (g : GG) (sz0 : Nat) {h : AH} {r ra : Nat} {fq : Int → Option Nat} {K : Int → Nat} {cn : Int} (hR2 : RW g r ra fq K cn h) (x : Int) (hx : 0 ≤ x ∧ x < cn) : CT l yX2_chunkAt wsX2_chunkAt rmX2_chunkAt g sz0 [.ref r, .int (iI (x))] h (fun v h' => v = some (.ref (K x)) ∧ h' = h) := by
  refine CT.of (by decide +kernel) rfl [some (.ref r), some (.int (iI (x)))] rfl (Nat.le_of_ble_eq_true rfl) ?_
  intro p e s m args below meth c B hr hlk hnm
  have hn9 := hR2.2.2.1
  refine r_iload_n B dX2_chunkAt_0 rfl ?_
  refine r_if_lt B dX2_chunkAt_1 (tgt := 30) (by decide) (by omega) (fun c1 => ?_) (fun c1 => ?_)
  · refine r_null B dX2_chunkAt_30 ?_
    exact r_aret B hr hlk dX2_chunkAt_31 rfl (Nat.le_of_ble_eq_true rfl) (Nat.le_of_ble_eq_true rfl) (by exfalso; omega)
  · refine r_iload_n B dX2_chunkAt_4 rfl ?_
    refine r_aload_n B dX2_chunkAt_5 rfl rfl ?_
    refine r_get (C := RX2) (T := TX2) (N := 2) (ci := 2) B dX2_chunkAt_6 in_X2_chunkAt_X2 rfl 1 (by decide) w_X2_chunkAt_f17 rfl hR2.1 rfl ?_
    refine r_icmp_ge B dX2_chunkAt_9 (tgt := 30) (by decide) (by omega) (by omega) (fun c9 => ?_) (fun c9 => ?_)
    · refine r_null B dX2_chunkAt_30 ?_
      exact r_aret B hr hlk dX2_chunkAt_31 rfl (Nat.le_of_ble_eq_true rfl) (Nat.le_of_ble_eq_true rfl) (by exfalso; omega)
    · refine r_iload_n B dX2_chunkAt_12 rfl ?_
      refine r_aload_n B dX2_chunkAt_13 rfl rfl ?_
      refine r_get (C := RX2) (T := TX2) (N := 2) (ci := 2) B dX2_chunkAt_14 in_X2_chunkAt_X2 rfl 0 (by decide) w_X2_chunkAt_f11 rfl hR2.1 rfl ?_
      refine r_alen_q B dX2_chunkAt_17 rfl hR2.2.1 ?_
      refine r_icmp_ge B dX2_chunkAt_18 (tgt := 30) (by decide) (by omega) (by omega) (fun c18 => ?_) (fun c18 => ?_)
      · refine r_null B dX2_chunkAt_30 ?_
        exact r_aret B hr hlk dX2_chunkAt_31 rfl (Nat.le_of_ble_eq_true rfl) (Nat.le_of_ble_eq_true rfl) (by exfalso; omega)
      · refine r_aload_n B dX2_chunkAt_21 rfl rfl ?_
        refine r_get (C := RX2) (T := TX2) (N := 2) (ci := 2) B dX2_chunkAt_22 in_X2_chunkAt_X2 rfl 0 (by decide) w_X2_chunkAt_f11 rfl hR2.1 rfl ?_
        refine r_iload_n B dX2_chunkAt_25 rfl ?_
        refine r_aald B dX2_chunkAt_26 rfl hR2.2.1 (by decide) (by omega) (by omega) ?_
        refine r_topr (hR2.2.2.2 x hx.1 hx.2) ?_
        refine r_goto B dX2_chunkAt_27 (tgt := 31) (by decide) ?_
        exact r_aret B hr hlk dX2_chunkAt_31 rfl (Nat.le_of_ble_eq_true rfl) (Nat.le_of_ble_eq_true rfl) ⟨rfl, rfl⟩
abbrev rmX2_hasAheadOf : Room := { frames := 0, cells := 0, slots := 0, locals := 0 }
theorem in_X2_hasAheadOf_X2 : ∀ w ∈ wsX20, w ∈ wsX2_hasAheadOf := by decide +kernel
theorem w_X2_hasAheadOf_f17 : Cond.fieldLink RX2 17 "DeltaNights$ChunkRow" "count" "I" ∈ wsX2_hasAheadOf := by decide +kernel
theorem w_X2_hasAheadOf_f11 : Cond.fieldLink RX2 11 "DeltaNights$ChunkRow" "chunks" "[LDeltaNights$Chunk;" ∈ wsX2_hasAheadOf := by decide +kernel
set_option maxHeartbeats 4000000 in
set_option maxRecDepth 100000 in
theorem ct_X2_hasAheadOf (l : Launch) (g : GG) (sz0 : Nat) {h : AH} {r ra : Nat} {fq : Int → Option Nat} {K : Int → Nat} {cn : Int} (hR2 : RW g r ra fq K cn h) (x : Int) (z : Nat) (hx : 0 ≤ x ∧ x ≤ cn) : CT l yX2_hasAheadOf wsX2_hasAheadOf rmX2_hasAheadOf g sz0 [.ref r, .int (iI (x)), .ref z] h (fun v h' => v = some (.int (iI (bI (exN (fun i => K i = z) x)))) ∧ h' = h) := by
  refine CT.of (by decide +kernel) rfl [some (.ref r), some (.int (iI (x))), some (.ref z), none] rfl (Nat.le_of_ble_eq_true rfl) ?_
  intro p e s m args below meth c B hr hlk hnm
  have hn9 := hR2.2.2.1
  refine r_iconst B dX2_hasAheadOf_0 ?_
  refine r_istore_n B dX2_hasAheadOf_1 rfl (by decide) (lcat_v rfl rfl) ?_
  have loop2 : ∀ (nn : Nat) (q : Int), (0 ≤ q ∧ q ≤ x) → (allN (fun i => ¬ K i = z) q) → (x - q).toNat < nn → WA p l e rmX2_hasAheadOf s m args below meth c g sz0 4 (MQ below (QQ g sz0 (fun v h' => v = some (.int (iI (bI (exN (fun i => K i = z) x)))) ∧ h' = h)) args s rmX2_hasAheadOf.cells rmX2_hasAheadOf.slots (A0 sz0)) h 0 0 [some (.ref r), some (.int (iI (x))), some (.ref z), some (.int (iI (q)))] 2 [] := by
    intro nn
    induction nn with
    | zero => intro q i1 i2 hn; exact absurd hn (Nat.not_lt_zero _)
    | succ nn ih =>
      intro q i1 i2 hn
      refine r_iload_n B dX2_hasAheadOf_2 rfl ?_
      refine r_iload_n B dX2_hasAheadOf_3 rfl ?_
      refine r_icmp_ge B dX2_hasAheadOf_4 (tgt := 42) (by decide) (by omega) (by omega) (fun c4 => ?_) (fun c4 => ?_)
      · refine r_iconst B dX2_hasAheadOf_42 ?_
        exact r_zret B hr hlk dX2_hasAheadOf_43 (Nat.le_of_ble_eq_true rfl) (Nat.le_of_ble_eq_true rfl) (by first | exact nar_0 | exact nar_1 | exact nar_bI _) ⟨by rw [bI_f (fun y : exN (fun i => K i = z) x => by obtain ⟨i, y0, y1, y2⟩ := y; exact i2 i y0 (by omega) y2)], rfl⟩
      · refine r_iload_n B dX2_hasAheadOf_7 rfl ?_
        refine r_aload_n B dX2_hasAheadOf_8 rfl rfl ?_
        refine r_get (C := RX2) (T := TX2) (N := 2) (ci := 2) B dX2_hasAheadOf_9 in_X2_hasAheadOf_X2 rfl 1 (by decide) w_X2_hasAheadOf_f17 rfl hR2.1 rfl ?_
        refine r_icmp_ge B dX2_hasAheadOf_12 (tgt := 42) (by decide) (by omega) (by omega) (fun c12 => ?_) (fun c12 => ?_)
        · refine r_iconst B dX2_hasAheadOf_42 ?_
          exact r_zret B hr hlk dX2_hasAheadOf_43 (Nat.le_of_ble_eq_true rfl) (Nat.le_of_ble_eq_true rfl) (by first | exact nar_0 | exact nar_1 | exact nar_bI _) (by exfalso; omega)
        · refine r_iload_n B dX2_hasAheadOf_15 rfl ?_
          refine r_aload_n B dX2_hasAheadOf_16 rfl rfl ?_
          refine r_get (C := RX2) (T := TX2) (N := 2) (ci := 2) B dX2_hasAheadOf_17 in_X2_hasAheadOf_X2 rfl 0 (by decide) w_X2_hasAheadOf_f11 rfl hR2.1 rfl ?_
          refine r_alen_q B dX2_hasAheadOf_20 rfl hR2.2.1 ?_
          refine r_icmp_ge B dX2_hasAheadOf_21 (tgt := 42) (by decide) (by omega) (by omega) (fun c21 => ?_) (fun c21 => ?_)
          · refine r_iconst B dX2_hasAheadOf_42 ?_
            exact r_zret B hr hlk dX2_hasAheadOf_43 (Nat.le_of_ble_eq_true rfl) (Nat.le_of_ble_eq_true rfl) (by first | exact nar_0 | exact nar_1 | exact nar_bI _) (by exfalso; omega)
          · refine r_aload_n B dX2_hasAheadOf_24 rfl rfl ?_
            refine r_get (C := RX2) (T := TX2) (N := 2) (ci := 2) B dX2_hasAheadOf_25 in_X2_hasAheadOf_X2 rfl 0 (by decide) w_X2_hasAheadOf_f11 rfl hR2.1 rfl ?_
            refine r_iload_n B dX2_hasAheadOf_28 rfl ?_
            refine r_aald B dX2_hasAheadOf_29 rfl hR2.2.1 (by decide) (by omega) (by omega) ?_
            refine r_aload_n B dX2_hasAheadOf_30 rfl rfl ?_
            refine r_topq ?_
            refine r_acmp_ne B dX2_hasAheadOf_31 (tgt := 36) (by decide) (fun c31 => ?_) (fun c31 => ?_)
            · refine r_iinc B dX2_hasAheadOf_36 rfl (by decide) (lcat_v rfl rfl) ?_
              refine r_goto B dX2_hasAheadOf_39 (tgt := 2) (by decide) ?_
              exact r_lv (lvLe_s rfl (lvLe_s rfl (lvLe_s rfl (lvLe_s rfl lvLe_nil)))) (ih (q + 1) (by omega) ((allN_s i1.1).mpr ⟨i2, fun y => c31 (by rw [hR2.2.2.2 q i1.1 (by omega), y])⟩) (by omega))
            · refine r_iconst B dX2_hasAheadOf_34 ?_
              exact r_zret B hr hlk dX2_hasAheadOf_35 (Nat.le_of_ble_eq_true rfl) (Nat.le_of_ble_eq_true rfl) (by first | exact nar_0 | exact nar_1 | exact nar_bI _) ⟨by rw [bI_t (show exN (fun i => K i = z) x from ⟨q, i1.1, by omega, by have := hR2.2.2.2 q i1.1 (by omega); rw [c31] at this; exact (Option.some.inj this).symm⟩)], rfl⟩
  exact r_lv (lvLe_s rfl (lvLe_s rfl (lvLe_s rfl (lvLe_s rfl lvLe_nil)))) (loop2 _ 0 (by omega) (allN_0 _) (Nat.lt_succ_self _))
abbrev rmX2_has : Room := { frames := 1, cells := 0, slots := 0, locals := 23 }
theorem in_X2_has_X2 : ∀ w ∈ wsX20, w ∈ wsX2_has := by decide +kernel
theorem w_X2_has_f17 : Cond.fieldLink RX2 17 "DeltaNights$ChunkRow" "count" "I" ∈ wsX2_has := by decide +kernel
set_option maxHeartbeats 4000000 in
set_option maxRecDepth 100000 in
theorem ct_X2_has (l : Launch) (g : GG) (sz0 : Nat) {h : AH} {r ra : Nat} {fq : Int → Option Nat} {K : Int → Nat} {cn : Int} (hR2 : RW g r ra fq K cn h) (z : Nat)  : CT l yX2_has wsX2_has rmX2_has g sz0 [.ref r, .ref z] h (fun v h' => v = some (.int (iI (bI (exN (fun i => K i = z) cn)))) ∧ h' = h) := by
  refine CT.of (by decide +kernel) rfl [some (.ref r), some (.ref z)] rfl (Nat.le_of_ble_eq_true rfl) ?_
  intro p e s m args below meth c B hr hlk hnm
  have hn9 := hR2.2.2.1
  refine r_aload_n B dX2_has_0 rfl rfl ?_
  refine r_aload_n B dX2_has_1 rfl rfl ?_
  refine r_get (C := RX2) (T := TX2) (N := 2) (ci := 2) B dX2_has_2 in_X2_has_X2 rfl 1 (by decide) w_X2_has_f17 rfl hR2.1 rfl ?_
  refine r_aload_n B dX2_has_5 rfl rfl ?_
  refine r_callV (n := 2) B dX2_has_6 (ct_X2_hasAheadOf l g sz0 hR2 _ _ (by omega)) gX2_has_X2_hasAheadOf rfl (by decide +kernel) ⟨Nat.le_of_ble_eq_true rfl, Nat.le_of_ble_eq_true rfl⟩ hR2.1 rfl rfl rfl (Nat.le_of_ble_eq_true rfl) (Nat.le_of_ble_eq_true rfl) (Nat.le_of_ble_eq_true rfl) (fun v h' hp => ?_)
  obtain ⟨hv, hh⟩ := hp
  subst v
  subst h'
  dsimp only [Option.toList, List.cons_append, List.nil_append]
  exact r_zret B hr hlk dX2_has_9 (Nat.le_of_ble_eq_true rfl) (Nat.le_of_ble_eq_true rfl) (by first | exact nar_0 | exact nar_1 | exact nar_bI _) ⟨rfl, rfl⟩
abbrev rmX2_hasRun : Room := { frames := 1, cells := 0, slots := 0, locals := 24 }
theorem in_X2_hasRun_X2 : ∀ w ∈ wsX20, w ∈ wsX2_hasRun := by decide +kernel
theorem w_X2_hasRun_f17 : Cond.fieldLink RX2 17 "DeltaNights$ChunkRow" "count" "I" ∈ wsX2_hasRun := by decide +kernel
set_option maxHeartbeats 4000000 in
set_option maxRecDepth 100000 in
theorem ct_X2_hasRun (l : Launch) (g : GG) (sz0 : Nat) {h h0 : AH} {f ac ae : Nat} {G Eg : Int → Int} {sz pt : Int} (hF : FL g f ac ae G Eg sz pt h0 h) {r ra : Nat} {fq : Int → Option Nat} {K : Int → Nat} {cn : Int} (hR2 : RW g r ra fq K cn h) {CA : Nat → Nat} {PV : Nat → Option Nat} {CF : Nat → Int → Int} {CN : Nat → Int} (hK : RK g CA PV CF CN K cn h) (u w : Int) (hu : 0 ≤ u ∧ 0 ≤ w ∧ u + w ≤ 48) : CT l yX2_hasRun wsX2_hasRun rmX2_hasRun g sz0 [.ref r, .ref f, .int (iI (u)), .int (iI (w))] h (fun v h' => v = some (.int (iI (bI (exN (fun j => runP CF CN G u w (K j)) cn)))) ∧ h' = h) := by
  refine CT.of (by decide +kernel) rfl [some (.ref r), some (.ref f), some (.int (iI (u))), some (.int (iI (w))), none, none] rfl (Nat.le_of_ble_eq_true rfl) ?_
  intro p e s m args below meth c B hr hlk hnm
  have hn9 := hR2.2.2.1
  refine r_iconst B dX2_hasRun_0 ?_
  refine r_istore B dX2_hasRun_1 (by decide) (lcat_v rfl rfl) ?_
  have loop3 : ∀ (nn : Nat) (q : Int), (0 ≤ q ∧ q ≤ cn) → (allN (fun j => ¬ runP CF CN G u w (K j)) q) → (cn - q).toNat < nn → WA p l e rmX2_hasRun s m args below meth c g sz0 6 (MQ below (QQ g sz0 (fun v h' => v = some (.int (iI (bI (exN (fun j => runP CF CN G u w (K j)) cn)))) ∧ h' = h)) args s rmX2_hasRun.cells rmX2_hasRun.slots (A0 sz0)) h 0 0 [some (.ref r), some (.ref f), some (.int (iI (u))), some (.int (iI (w))), some (.int (iI (q))), none] 3 [] := by
    intro nn
    induction nn with
    | zero => intro q i1 i2 hn; exact absurd hn (Nat.not_lt_zero _)
    | succ nn ih =>
      intro q i1 i2 hn
      refine r_iload B dX2_hasRun_3 rfl ?_
      refine r_aload_n B dX2_hasRun_5 rfl rfl ?_
      refine r_get (C := RX2) (T := TX2) (N := 2) (ci := 2) B dX2_hasRun_6 in_X2_hasRun_X2 rfl 1 (by decide) w_X2_hasRun_f17 rfl hR2.1 rfl ?_
      refine r_icmp_ge B dX2_hasRun_9 (tgt := 44) (by decide) (by omega) (by omega) (fun c9 => ?_) (fun c9 => ?_)
      · refine r_iconst B dX2_hasRun_44 ?_
        exact r_zret B hr hlk dX2_hasRun_45 (Nat.le_of_ble_eq_true rfl) (Nat.le_of_ble_eq_true rfl) (by first | exact nar_0 | exact nar_1 | exact nar_bI _) ⟨by rw [bI_f (fun y : exN (fun j => runP CF CN G u w (K j)) cn => by obtain ⟨i, y0, y1, y2⟩ := y; exact i2 i y0 (by omega) y2)], rfl⟩
      · refine r_aload_n B dX2_hasRun_12 rfl rfl ?_
        refine r_iload B dX2_hasRun_13 rfl ?_
        refine r_callV (n := 1) B dX2_hasRun_15 (ct_X2_chunkAt l g sz0 hR2 _ (by omega)) gX2_hasRun_X2_chunkAt rfl (by decide +kernel) ⟨Nat.le_of_ble_eq_true rfl, Nat.le_of_ble_eq_true rfl⟩ hR2.1 rfl rfl rfl (Nat.le_of_ble_eq_true rfl) (Nat.le_of_ble_eq_true rfl) (Nat.le_of_ble_eq_true rfl) (fun v h' hp => ?_)
        obtain ⟨hv, hh⟩ := hp
        subst v
        subst h'
        dsimp only [Option.toList, List.cons_append, List.nil_append]
        have hck := hK q i1.1 (by omega)
        refine r_astore B dX2_hasRun_18 rfl (by decide) (lcat_v rfl rfl) ?_
        refine r_aload B dX2_hasRun_20 rfl rfl ?_
        refine r_ifnull_r B dX2_hasRun_22 ?_
        refine r_aload B dX2_hasRun_25 rfl rfl ?_
        refine r_aload_n B dX2_hasRun_27 rfl rfl ?_
        refine r_iload_n B dX2_hasRun_28 rfl ?_
        refine r_iload_n B dX2_hasRun_29 rfl ?_
        refine r_callV (n := 3) B dX2_hasRun_30 (ct_X1_isRun l g sz0 hF hck _ _ hu) gX2_hasRun_X1_isRun rfl (by decide +kernel) ⟨Nat.le_of_ble_eq_true rfl, Nat.le_of_ble_eq_true rfl⟩ hck.1 rfl rfl rfl (Nat.le_of_ble_eq_true rfl) (Nat.le_of_ble_eq_true rfl) (Nat.le_of_ble_eq_true rfl) (fun v h' hp => ?_)
        obtain ⟨hv, hh⟩ := hp
        subst v
        subst h'
        dsimp only [Option.toList, List.cons_append, List.nil_append]
        refine r_if_eq B dX2_hasRun_33 (tgt := 38) (by decide) (bI_rng _) (fun c33 => ?_) (fun c33 => ?_)
        · replace c33 := bI_0.mp c33
          refine r_iinc B dX2_hasRun_38 rfl (by decide) (lcat_v rfl rfl) ?_
          refine r_goto B dX2_hasRun_41 (tgt := 3) (by decide) ?_
          exact r_lv (lvLe_s rfl (lvLe_s rfl (lvLe_s rfl (lvLe_s rfl (lvLe_s rfl (lvLe_n lvLe_nil)))))) (ih (q + 1) (by omega) ((allN_s i1.1).mpr ⟨i2, c33⟩) (by omega))
        · replace c33 := bI_n0.mp c33
          refine r_iconst B dX2_hasRun_36 ?_
          exact r_zret B hr hlk dX2_hasRun_37 (Nat.le_of_ble_eq_true rfl) (Nat.le_of_ble_eq_true rfl) (by first | exact nar_0 | exact nar_1 | exact nar_bI _) ⟨by rw [bI_t (show exN (fun j => runP CF CN G u w (K j)) cn from ⟨q, i1.1, by omega, c33⟩)], rfl⟩
  exact r_lv (lvLe_s rfl (lvLe_s rfl (lvLe_s rfl (lvLe_s rfl (lvLe_s rfl (lvLe_n lvLe_nil)))))) (loop3 _ 0 (by omega) (allN_0 _) (Nat.lt_succ_self _))
abbrev rmX2_byteCount : Room := { frames := 1, cells := 0, slots := 0, locals := 21 }
theorem in_X2_byteCount_X2 : ∀ w ∈ wsX20, w ∈ wsX2_byteCount := by decide +kernel
theorem w_X2_byteCount_f17 : Cond.fieldLink RX2 17 "DeltaNights$ChunkRow" "count" "I" ∈ wsX2_byteCount := by decide +kernel
set_option maxHeartbeats 4000000 in
set_option maxRecDepth 100000 in
theorem ct_X2_byteCount (l : Launch) (g : GG) (sz0 : Nat) {h : AH} {r ra : Nat} {fq : Int → Option Nat} {K : Int → Nat} {cn : Int} (hR2 : RW g r ra fq K cn h) {CA : Nat → Nat} {PV : Nat → Option Nat} {CF : Nat → Int → Int} {CN : Nat → Int} (hK : RK g CA PV CF CN K cn h)  : CT l yX2_byteCount wsX2_byteCount rmX2_byteCount g sz0 [.ref r] h (fun v h' => v = some (.int (iI (sumZ (fun j => CN (K j)) cn.toNat))) ∧ h' = h) := by
  refine CT.of (by decide +kernel) rfl [some (.ref r), none, none, none] rfl (Nat.le_of_ble_eq_true rfl) ?_
  intro p e s m args below meth c B hr hlk hnm
  have hn9 := hR2.2.2.1
  refine r_iconst B dX2_byteCount_0 ?_
  refine r_istore_n B dX2_byteCount_1 rfl (by decide) (lcat_v rfl rfl) ?_
  refine r_iconst B dX2_byteCount_2 ?_
  refine r_istore_n B dX2_byteCount_3 rfl (by decide) (lcat_v rfl rfl) ?_
  have loop4 : ∀ (nn : Nat) (q : Int) (u : Int), (0 ≤ q ∧ q ≤ cn) → (u = sumZ (fun j => CN (K j)) q.toNat) → (cn - q).toNat < nn → WA p l e rmX2_byteCount s m args below meth c g sz0 4 (MQ below (QQ g sz0 (fun v h' => v = some (.int (iI (sumZ (fun j => CN (K j)) cn.toNat))) ∧ h' = h)) args s rmX2_byteCount.cells rmX2_byteCount.slots (A0 sz0)) h 0 0 [some (.ref r), some (.int (iI (u))), some (.int (iI (q))), none] 4 [] := by
    intro nn
    induction nn with
    | zero => intro q u i1 i2 hn; exact absurd hn (Nat.not_lt_zero _)
    | succ nn ih =>
      intro q u i1 i2 hn
      refine r_iload_n B dX2_byteCount_4 rfl ?_
      refine r_aload_n B dX2_byteCount_5 rfl rfl ?_
      refine r_get (C := RX2) (T := TX2) (N := 2) (ci := 2) B dX2_byteCount_6 in_X2_byteCount_X2 rfl 1 (by decide) w_X2_byteCount_f17 rfl hR2.1 rfl ?_
      refine r_icmp_ge B dX2_byteCount_9 (tgt := 39) (by decide) (by omega) (by omega) (fun c9 => ?_) (fun c9 => ?_)
      · refine r_iload_n B dX2_byteCount_39 rfl ?_
        exact r_iret B hr hlk dX2_byteCount_40 (Nat.le_of_ble_eq_true rfl) (Nat.le_of_ble_eq_true rfl) ⟨by rw [i2, show q = cn by omega], rfl⟩
      · refine r_aload_n B dX2_byteCount_12 rfl rfl ?_
        refine r_iload_n B dX2_byteCount_13 rfl ?_
        refine r_callV (n := 1) B dX2_byteCount_14 (ct_X2_chunkAt l g sz0 hR2 _ (by omega)) gX2_byteCount_X2_chunkAt rfl (by decide +kernel) ⟨Nat.le_of_ble_eq_true rfl, Nat.le_of_ble_eq_true rfl⟩ hR2.1 rfl rfl rfl (Nat.le_of_ble_eq_true rfl) (Nat.le_of_ble_eq_true rfl) (Nat.le_of_ble_eq_true rfl) (fun v h' hp => ?_)
        obtain ⟨hv, hh⟩ := hp
        subst v
        subst h'
        dsimp only [Option.toList, List.cons_append, List.nil_append]
        have hck := hK q i1.1 (by omega)
        refine r_astore_n B dX2_byteCount_17 rfl rfl (by decide) (lcat_v rfl rfl) ?_
        refine r_iload_n B dX2_byteCount_18 rfl ?_
        refine r_aload_n B dX2_byteCount_19 rfl rfl ?_
        refine r_ifnonnull_r B dX2_byteCount_20 (tgt := 27) (by decide) ?_
        refine r_aload_n B dX2_byteCount_27 rfl rfl ?_
        refine r_callV (n := 0) B dX2_byteCount_28 (ct_X1_size l g sz0 hck) gX2_byteCount_X1_size rfl (by decide +kernel) ⟨Nat.le_of_ble_eq_true rfl, Nat.le_of_ble_eq_true rfl⟩ hck.1 rfl rfl rfl (Nat.le_of_ble_eq_true rfl) (Nat.le_of_ble_eq_true rfl) (Nat.le_of_ble_eq_true rfl) (fun v h' hp => ?_)
        obtain ⟨hv, hh⟩ := hp
        subst v
        subst h'
        dsimp only [Option.toList, List.cons_append, List.nil_append]
        refine r_iadd B dX2_byteCount_31 ?_
        refine r_istore_n B dX2_byteCount_32 rfl (by decide) (lcat_v rfl rfl) ?_
        refine r_iinc B dX2_byteCount_33 rfl (by decide) (lcat_v rfl rfl) ?_
        refine r_goto B dX2_byteCount_36 (tgt := 4) (by decide) ?_
        exact r_lv (lvLe_s rfl (lvLe_s rfl (lvLe_s rfl (lvLe_n lvLe_nil)))) (ih (q + 1) _ (by omega) (by rw [sumZ_s _ i1.1, i2]) (by omega))
  exact r_lv (lvLe_s rfl (lvLe_s rfl (lvLe_s rfl (lvLe_n lvLe_nil)))) (loop4 _ 0 0 (by omega) rfl (Nat.lt_succ_self _))
abbrev rmX2_unlikeByteCount : Room := { frames := 1, cells := 0, slots := 0, locals := 23 }
theorem in_X2_unlikeByteCount_X2 : ∀ w ∈ wsX20, w ∈ wsX2_unlikeByteCount := by decide +kernel
theorem w_X2_unlikeByteCount_f17 : Cond.fieldLink RX2 17 "DeltaNights$ChunkRow" "count" "I" ∈ wsX2_unlikeByteCount := by decide +kernel
set_option maxHeartbeats 4000000 in
set_option maxRecDepth 100000 in
theorem ct_X2_unlikeByteCount (l : Launch) (g : GG) (sz0 : Nat) {h : AH} {r ra : Nat} {fq : Int → Option Nat} {K : Int → Nat} {cn : Int} (hR2 : RW g r ra fq K cn h) {CA : Nat → Nat} {PV : Nat → Option Nat} {CF : Nat → Int → Int} {CN : Nat → Int} (hK : RK g CA PV CF CN K cn h)  : CT l yX2_unlikeByteCount wsX2_unlikeByteCount rmX2_unlikeByteCount g sz0 [.ref r] h (fun v h' => v = some (.int (iI (sumZ (fun j => bI (¬ exN (fun i => K i = K j) j) * CN (K j)) cn.toNat))) ∧ h' = h) := by
  refine CT.of (by decide +kernel) rfl [some (.ref r), none, none, none] rfl (Nat.le_of_ble_eq_true rfl) ?_
  intro p e s m args below meth c B hr hlk hnm
  have hn9 := hR2.2.2.1
  refine r_iconst B dX2_unlikeByteCount_0 ?_
  refine r_istore_n B dX2_unlikeByteCount_1 rfl (by decide) (lcat_v rfl rfl) ?_
  refine r_iconst B dX2_unlikeByteCount_2 ?_
  refine r_istore_n B dX2_unlikeByteCount_3 rfl (by decide) (lcat_v rfl rfl) ?_
  have loop4 : ∀ (nn : Nat) (q : Int) (u : Int), (0 ≤ q ∧ q ≤ cn) → (u = sumZ (fun j => bI (¬ exN (fun i => K i = K j) j) * CN (K j)) q.toNat) → (cn - q).toNat < nn → WA p l e rmX2_unlikeByteCount s m args below meth c g sz0 4 (MQ below (QQ g sz0 (fun v h' => v = some (.int (iI (sumZ (fun j => bI (¬ exN (fun i => K i = K j) j) * CN (K j)) cn.toNat))) ∧ h' = h)) args s rmX2_unlikeByteCount.cells rmX2_unlikeByteCount.slots (A0 sz0)) h 0 0 [some (.ref r), some (.int (iI (u))), some (.int (iI (q))), none] 4 [] := by
    intro nn
    induction nn with
    | zero => intro q u i1 i2 hn; exact absurd hn (Nat.not_lt_zero _)
    | succ nn ih =>
      intro q u i1 i2 hn
      refine r_iload_n B dX2_unlikeByteCount_4 rfl ?_
      refine r_aload_n B dX2_unlikeByteCount_5 rfl rfl ?_
      refine r_get (C := RX2) (T := TX2) (N := 2) (ci := 2) B dX2_unlikeByteCount_6 in_X2_unlikeByteCount_X2 rfl 1 (by decide) w_X2_unlikeByteCount_f17 rfl hR2.1 rfl ?_
      refine r_icmp_ge B dX2_unlikeByteCount_9 (tgt := 44) (by decide) (by omega) (by omega) (fun c9 => ?_) (fun c9 => ?_)
      · refine r_iload_n B dX2_unlikeByteCount_44 rfl ?_
        exact r_iret B hr hlk dX2_unlikeByteCount_45 (Nat.le_of_ble_eq_true rfl) (Nat.le_of_ble_eq_true rfl) ⟨by rw [i2, show q = cn by omega], rfl⟩
      · refine r_aload_n B dX2_unlikeByteCount_12 rfl rfl ?_
        refine r_iload_n B dX2_unlikeByteCount_13 rfl ?_
        refine r_callV (n := 1) B dX2_unlikeByteCount_14 (ct_X2_chunkAt l g sz0 hR2 _ (by omega)) gX2_unlikeByteCount_X2_chunkAt rfl (by decide +kernel) ⟨Nat.le_of_ble_eq_true rfl, Nat.le_of_ble_eq_true rfl⟩ hR2.1 rfl rfl rfl (Nat.le_of_ble_eq_true rfl) (Nat.le_of_ble_eq_true rfl) (Nat.le_of_ble_eq_true rfl) (fun v h' hp => ?_)
        obtain ⟨hv, hh⟩ := hp
        subst v
        subst h'
        dsimp only [Option.toList, List.cons_append, List.nil_append]
        have hck := hK q i1.1 (by omega)
        refine r_astore_n B dX2_unlikeByteCount_17 rfl rfl (by decide) (lcat_v rfl rfl) ?_
        refine r_aload_n B dX2_unlikeByteCount_18 rfl rfl ?_
        refine r_ifnull_r B dX2_unlikeByteCount_19 ?_
        refine r_aload_n B dX2_unlikeByteCount_22 rfl rfl ?_
        refine r_iload_n B dX2_unlikeByteCount_23 rfl ?_
        refine r_aload_n B dX2_unlikeByteCount_24 rfl rfl ?_
        refine r_callV (n := 2) B dX2_unlikeByteCount_25 (ct_X2_hasAheadOf l g sz0 hR2 _ _ (by omega)) gX2_unlikeByteCount_X2_hasAheadOf rfl (by decide +kernel) ⟨Nat.le_of_ble_eq_true rfl, Nat.le_of_ble_eq_true rfl⟩ hR2.1 rfl rfl rfl (Nat.le_of_ble_eq_true rfl) (Nat.le_of_ble_eq_true rfl) (Nat.le_of_ble_eq_true rfl) (fun v h' hp => ?_)
        obtain ⟨hv, hh⟩ := hp
        subst v
        subst h'
        dsimp only [Option.toList, List.cons_append, List.nil_append]
        refine r_if_ne B dX2_unlikeByteCount_28 (tgt := 38) (by decide) (bI_rng _) (fun c28 => ?_) (fun c28 => ?_)
        · replace c28 := bI_n0.mp c28
          refine r_iinc B dX2_unlikeByteCount_38 rfl (by decide) (lcat_v rfl rfl) ?_
          refine r_goto B dX2_unlikeByteCount_41 (tgt := 4) (by decide) ?_
          exact r_lv (lvLe_s rfl (lvLe_s rfl (lvLe_s rfl (lvLe_n lvLe_nil)))) (ih (q + 1) _ (by omega) (by rw [sumZ_s _ i1.1, bI_f (fun y => y c28), i2]; omega) (by omega))
        · replace c28 := bI_0.mp c28
          refine r_iload_n B dX2_unlikeByteCount_31 rfl ?_
          refine r_aload_n B dX2_unlikeByteCount_32 rfl rfl ?_
          refine r_callV (n := 0) B dX2_unlikeByteCount_33 (ct_X1_size l g sz0 hck) gX2_unlikeByteCount_X1_size rfl (by decide +kernel) ⟨Nat.le_of_ble_eq_true rfl, Nat.le_of_ble_eq_true rfl⟩ hck.1 rfl rfl rfl (Nat.le_of_ble_eq_true rfl) (Nat.le_of_ble_eq_true rfl) (Nat.le_of_ble_eq_true rfl) (fun v h' hp => ?_)
          obtain ⟨hv, hh⟩ := hp
          subst v
          subst h'
          dsimp only [Option.toList, List.cons_append, List.nil_append]
          refine r_iadd B dX2_unlikeByteCount_36 ?_
          refine r_istore_n B dX2_unlikeByteCount_37 rfl (by decide) (lcat_v rfl rfl) ?_
          refine r_iinc B dX2_unlikeByteCount_38 rfl (by decide) (lcat_v rfl rfl) ?_
          refine r_goto B dX2_unlikeByteCount_41 (tgt := 4) (by decide) ?_
          exact r_lv (lvLe_s rfl (lvLe_s rfl (lvLe_s rfl (lvLe_n lvLe_nil)))) (ih (q + 1) _ (by omega) (by rw [sumZ_s _ i1.1, bI_t c28, i2]; omega) (by omega))
  exact r_lv (lvLe_s rfl (lvLe_s rfl (lvLe_s rfl (lvLe_n lvLe_nil)))) (loop4 _ 0 0 (by omega) rfl (Nat.lt_succ_self _))
abbrev rmX2_fingerprint : Room := { frames := 2, cells := 0, slots := 0, locals := 47 }
theorem in_X2_fingerprint_X2 : ∀ w ∈ wsX20, w ∈ wsX2_fingerprint := by decide +kernel
theorem w_X2_fingerprint_f17 : Cond.fieldLink RX2 17 "DeltaNights$ChunkRow" "count" "I" ∈ wsX2_fingerprint := by decide +kernel
set_option maxHeartbeats 4000000 in
set_option maxRecDepth 100000 in
theorem ct_X2_fingerprint (l : Launch) (g : GG) (sz0 : Nat) {h : AH} {r ra : Nat} {fq : Int → Option Nat} {K : Int → Nat} {cn : Int} (hR2 : RW g r ra fq K cn h) {CA : Nat → Nat} {PV : Nat → Option Nat} {CF : Nat → Int → Int} {CN : Nat → Int} (hK : RK g CA PV CF CN K cn h)  : CT l yX2_fingerprint wsX2_fingerprint rmX2_fingerprint g sz0 [.ref r] h (fun v h' => v = some (.long (digK CF CN K cn.toNat)) ∧ h' = h) := by
  refine CT.of (by decide +kernel) rfl [some (.ref r), none, none, none, none] rfl (Nat.le_of_ble_eq_true rfl) ?_
  intro p e s m args below meth c B hr hlk hnm
  have hn9 := hR2.2.2.1
  refine r_lconst B dX2_fingerprint_0 rfl ?_
  refine r_lstore_n B dX2_fingerprint_1 rfl (by decide) (lcat_v rfl rfl) ?_
  refine r_iconst B dX2_fingerprint_2 ?_
  refine r_istore_n B dX2_fingerprint_3 rfl (by decide) (lcat_n rfl) ?_
  have loop4 : ∀ (nn : Nat) (q : Int), (0 ≤ q ∧ q ≤ cn) → (cn - q).toNat < nn → WA p l e rmX2_fingerprint s m args below meth c g sz0 5 (MQ below (QQ g sz0 (fun v h' => v = some (.long (digK CF CN K cn.toNat)) ∧ h' = h)) args s rmX2_fingerprint.cells rmX2_fingerprint.slots (A0 sz0)) h 0 0 [some (.ref r), some (.long (digK CF CN K q.toNat)), none, some (.int (iI (q))), none] 4 [] := by
    intro nn
    induction nn with
    | zero => intro q i1 hn; exact absurd hn (Nat.not_lt_zero _)
    | succ nn ih =>
      intro q i1 hn
      refine r_iload_n B dX2_fingerprint_4 rfl ?_
      refine r_aload_n B dX2_fingerprint_5 rfl rfl ?_
      refine r_get (C := RX2) (T := TX2) (N := 2) (ci := 2) B dX2_fingerprint_6 in_X2_fingerprint_X2 rfl 1 (by decide) w_X2_fingerprint_f17 rfl hR2.1 rfl ?_
      refine r_icmp_ge B dX2_fingerprint_9 (tgt := 41) (by decide) (by omega) (by omega) (fun c9 => ?_) (fun c9 => ?_)
      · refine r_lload_n B dX2_fingerprint_41 rfl ?_
        exact r_lret B hr hlk dX2_fingerprint_42 (Nat.le_of_ble_eq_true rfl) (Nat.le_of_ble_eq_true rfl) ⟨by rw [show cn = q by omega], rfl⟩
      · refine r_aload_n B dX2_fingerprint_12 rfl rfl ?_
        refine r_iload_n B dX2_fingerprint_13 rfl ?_
        refine r_callV (n := 1) B dX2_fingerprint_14 (ct_X2_chunkAt l g sz0 hR2 _ (by omega)) gX2_fingerprint_X2_chunkAt rfl (by decide +kernel) ⟨Nat.le_of_ble_eq_true rfl, Nat.le_of_ble_eq_true rfl⟩ hR2.1 rfl rfl rfl (Nat.le_of_ble_eq_true rfl) (Nat.le_of_ble_eq_true rfl) (Nat.le_of_ble_eq_true rfl) (fun v h' hp => ?_)
        obtain ⟨hv, hh⟩ := hp
        subst v
        subst h'
        dsimp only [Option.toList, List.cons_append, List.nil_append]
        have hck := hK q i1.1 (by omega)
        refine r_astore B dX2_fingerprint_17 rfl (by decide) (lcat_v rfl rfl) ?_
        refine r_aload B dX2_fingerprint_19 rfl rfl ?_
        refine r_ifnonnull_r B dX2_fingerprint_21 (tgt := 28) (by decide) ?_
        refine r_aload B dX2_fingerprint_28 rfl rfl ?_
        refine r_lload_n B dX2_fingerprint_30 rfl ?_
        refine r_callV (n := 1) B dX2_fingerprint_31 (ct_X1_foldedInto l g sz0 hck _) gX2_fingerprint_X1_foldedInto rfl (by decide +kernel) ⟨Nat.le_of_ble_eq_true rfl, Nat.le_of_ble_eq_true rfl⟩ hck.1 rfl rfl rfl (Nat.le_of_ble_eq_true rfl) (Nat.le_of_ble_eq_true rfl) (Nat.le_of_ble_eq_true rfl) (fun v h' hp => ?_)
        obtain ⟨hv, hh⟩ := hp
        subst v
        subst h'
        dsimp only [Option.toList, List.cons_append, List.nil_append]
        refine r_lstore_n B dX2_fingerprint_34 rfl (by decide) (lcat_v rfl rfl) ?_
        refine r_iinc B dX2_fingerprint_35 rfl (by decide) (lcat_n rfl) ?_
        refine r_goto B dX2_fingerprint_38 (tgt := 4) (by decide) ?_
        rw [← digK_s _ _ _ i1.1]
        exact r_lv (lvLe_s rfl (lvLe_s rfl (lvLe_n (lvLe_s rfl (lvLe_n lvLe_nil))))) (ih (q + 1) (by omega) (by omega))
  exact r_lv (lvLe_s rfl (lvLe_s rfl (lvLe_n (lvLe_s rfl (lvLe_n lvLe_nil))))) (loop4 _ 0 (by omega) (Nat.lt_succ_self _))
