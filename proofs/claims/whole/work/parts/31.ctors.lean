theorem wc_0 : Cond.instanceMethod objectInit ∈ hs_tb := hs_w1 (k := 25) (by decide +kernel) (by decide +kernel)
theorem wc_1 : Cond.code objectInit ⟨#[0xb1]⟩ 1 none ∈ hs_tb := hs_w1 (k := 26) (by decide +kernel) (by decide +kernel)
theorem wc_2 : Cond.methodLink RX0 3 objectInit ∈ hs_tb := hs_w1 (k := 133) (by decide +kernel) (by decide +kernel)
theorem wc_3 : Cond.methodLink RX1 3 objectInit ∈ hs_tb := hs_w1 (k := 32) (by decide +kernel) (by decide +kernel)
theorem wc_4 : Cond.methodLink RX3 3 objectInit ∈ hs_tb := hs_w1 (k := 87) (by decide +kernel) (by decide +kernel)
theorem wc_5 : Cond.arrayClass .int ∈ hs_tb := hs_w1 (k := 109) (by decide +kernel) (by decide +kernel)
theorem wc_6 : Cond.fieldLink RX3 9 "HeaderSqueeze$Packet" "bytes" "[I" ∈ hs_tb := hs_w1 (k := 88) (by decide +kernel) (by decide +kernel)
theorem wc_7 : Cond.methodLink RX4 3 objectInit ∈ hs_tb := hs_w1 (k := 190) (by decide +kernel) (by decide +kernel)
theorem wc_8 : Cond.classLink RX4 9 RX0 ∈ hs_tb := hs_w1 (k := 191) (by decide +kernel) (by decide +kernel)
theorem wc_9 : Cond.instantiable RX0 5 ∈ hs_tb := hs_w1 (k := 129) (by decide +kernel) (by decide +kernel)
theorem wc_10 : Cond.initialized RX0 ∈ hs_tb := hs_w1 (k := 6) (by decide +kernel) (by decide +kernel)
theorem wc_11 : Cond.instanceMethod yX0_init ∈ hs_tb := hs_w1 (k := 131) (by decide +kernel) (by decide +kernel)
theorem wc_12 : Cond.code yX0_init cX0_init 1 none ∈ hs_tb := hs_w1 (k := 132) (by decide +kernel) (by decide +kernel)
theorem wc_13 : Cond.fieldLink RX4 12 "HeaderSqueeze$Receiver" "context" "LHeaderSqueeze$Context;" ∈ hs_tb := hs_w1 (k := 193) (by decide +kernel) (by decide +kernel)
theorem wc_14 : Cond.methodLink RX5 3 objectInit ∈ hs_tb := hs_w1 (k := 127) (by decide +kernel) (by decide +kernel)
theorem wc_15 : Cond.classLink RX5 9 RX0 ∈ hs_tb := hs_w1 (k := 128) (by decide +kernel) (by decide +kernel)
theorem wc_16 : Cond.fieldLink RX5 12 "HeaderSqueeze$Sender" "context" "LHeaderSqueeze$Context;" ∈ hs_tb := hs_w1 (k := 156) (by decide +kernel) (by decide +kernel)
theorem wc_17 : Cond.fieldLink RX5 18 "HeaderSqueeze$Sender" "numbers" "[I" ∈ hs_tb := hs_w1 (k := 167) (by decide +kernel) (by decide +kernel)
theorem wc_18 : Cond.fieldLink RX2 11 "HeaderSqueeze$Line" "rows" "[LHeaderSqueeze$Packet;" ∈ hs_tb := hs_w1 (k := 110) (by decide +kernel) (by decide +kernel)
theorem wc_19 : Cond.classLink RX2 9 RX3 ∈ hs_tb := hs_w1 (k := 81) (by decide +kernel) (by decide +kernel)
theorem wc_20 : Cond.instantiable RX3 5 ∈ hs_tb := hs_w1 (k := 83) (by decide +kernel) (by decide +kernel)
theorem wc_21 : Cond.initialized RX3 ∈ hs_tb := hs_w1 (k := 4) (by decide +kernel) (by decide +kernel)
theorem wc_22 : Cond.instanceMethod yX3_init ∈ hs_tb := hs_w1 (k := 85) (by decide +kernel) (by decide +kernel)
theorem wc_23 : Cond.code yX3_init cX3_init 1 none ∈ hs_tb := hs_w1 (k := 86) (by decide +kernel) (by decide +kernel)
theorem wc_24 : Cond.methodLink RX2 3 objectInit ∈ hs_tb := hs_w1 (k := 80) (by decide +kernel) (by decide +kernel)
theorem wc_25 : Cond.fieldLink RX6 25 "HeaderSqueeze" "senders" "[LHeaderSqueeze$Sender;" ∈ hs_tb := hs_w1 (k := 215) (by decide +kernel) (by decide +kernel)
theorem wc_26 : Cond.fieldLink RX6 31 "HeaderSqueeze" "receivers" "[LHeaderSqueeze$Receiver;" ∈ hs_tb := hs_w1 (k := 216) (by decide +kernel) (by decide +kernel)
theorem wc_27 : Cond.classLink RX6 23 RX5 ∈ hs_tb := hs_w1 (k := 119) (by decide +kernel) (by decide +kernel)
theorem wc_28 : Cond.instantiable RX5 8 ∈ hs_tb := hs_w1 (k := 123) (by decide +kernel) (by decide +kernel)
theorem wc_29 : Cond.initialized RX5 ∈ hs_tb := hs_w1 (k := 5) (by decide +kernel) (by decide +kernel)
theorem wc_30 : Cond.instanceMethod yX5_init ∈ hs_tb := hs_w1 (k := 125) (by decide +kernel) (by decide +kernel)
theorem wc_31 : Cond.code yX5_init cX5_init 1 none ∈ hs_tb := hs_w1 (k := 126) (by decide +kernel) (by decide +kernel)
theorem wc_32 : Cond.classLink RX6 29 RX4 ∈ hs_tb := hs_w1 (k := 121) (by decide +kernel) (by decide +kernel)
theorem wc_33 : Cond.instantiable RX4 5 ∈ hs_tb := hs_w1 (k := 186) (by decide +kernel) (by decide +kernel)
theorem wc_34 : Cond.initialized RX4 ∈ hs_tb := hs_w1 (k := 7) (by decide +kernel) (by decide +kernel)
theorem wc_35 : Cond.instanceMethod yX4_init ∈ hs_tb := hs_w1 (k := 188) (by decide +kernel) (by decide +kernel)
theorem wc_36 : Cond.code yX4_init cX4_init 1 none ∈ hs_tb := hs_w1 (k := 189) (by decide +kernel) (by decide +kernel)
theorem wc_37 : Cond.methodLink RX6 1 objectInit ∈ hs_tb := hs_w1 (k := 24) (by decide +kernel) (by decide +kernel)
theorem wc_38 : Cond.classLink RX6 7 RX1 ∈ hs_tb := hs_w1 (k := 27) (by decide +kernel) (by decide +kernel)
theorem wc_39 : Cond.instantiable RX1 6 ∈ hs_tb := hs_w1 (k := 28) (by decide +kernel) (by decide +kernel)
theorem wc_40 : Cond.initialized RX1 ∈ hs_tb := hs_w1 (k := 2) (by decide +kernel) (by decide +kernel)
theorem wc_41 : Cond.instanceMethod yX1_init ∈ hs_tb := hs_w1 (k := 30) (by decide +kernel) (by decide +kernel)
theorem wc_42 : Cond.code yX1_init cX1_init 1 none ∈ hs_tb := hs_w1 (k := 31) (by decide +kernel) (by decide +kernel)
theorem wc_43 : Cond.fieldLink RX6 10 "HeaderSqueeze" "next" "LHeaderSqueeze$Head;" ∈ hs_tb := hs_w1 (k := 213) (by decide +kernel) (by decide +kernel)
theorem wc_44 : Cond.classLink RX6 16 RX2 ∈ hs_tb := hs_w1 (k := 75) (by decide +kernel) (by decide +kernel)
theorem wc_45 : Cond.instantiable RX2 2 ∈ hs_tb := hs_w1 (k := 76) (by decide +kernel) (by decide +kernel)
theorem wc_46 : Cond.initialized RX2 ∈ hs_tb := hs_w1 (k := 3) (by decide +kernel) (by decide +kernel)
theorem wc_47 : Cond.methodLink RX6 18 yX2_init ∈ hs_tb := hs_w1 (k := 77) (by decide +kernel) (by decide +kernel)
theorem wc_48 : Cond.instanceMethod yX2_init ∈ hs_tb := hs_w1 (k := 78) (by decide +kernel) (by decide +kernel)
theorem wc_49 : Cond.code yX2_init cX2_init 2 none ∈ hs_tb := hs_w1 (k := 79) (by decide +kernel) (by decide +kernel)
theorem wc_50 : Cond.fieldLink RX6 19 "HeaderSqueeze" "onTheWay" "LHeaderSqueeze$Line;" ∈ hs_tb := hs_w1 (k := 214) (by decide +kernel) (by decide +kernel)
theorem wc_51 : Cond.fieldLink RX6 35 "HeaderSqueeze" "counts" "[I" ∈ hs_tb := hs_w1 (k := 217) (by decide +kernel) (by decide +kernel)
theorem wc_52 : Cond.fieldLink RX6 39 "HeaderSqueeze" "latest" "LHeaderSqueeze$Head;" ∈ hs_tb := hs_w1 (k := 218) (by decide +kernel) (by decide +kernel)
theorem wc_53 : Cond.fieldLink RX6 42 "HeaderSqueeze" "trial" "LHeaderSqueeze$Head;" ∈ hs_tb := hs_w1 (k := 219) (by decide +kernel) (by decide +kernel)
theorem wc_54 : Cond.methodLink RX7 1 objectInit ∈ hs_tb := hs_w1 (k := 689) (by decide +kernel) (by decide +kernel)
theorem wc_55 : Cond.fieldLink RX7 7 "HeaderSqueezeModel" "wished" "[I" ∈ hs_tb := hs_w1 (k := 694) (by decide +kernel) (by decide +kernel)
theorem wc_56 : Cond.arrayClass .boolean ∈ hs_tb := hs_w1 (k := 790) (by decide +kernel) (by decide +kernel)
theorem wc_57 : Cond.fieldLink RX7 13 "HeaderSqueezeModel" "has" "[Z" ∈ hs_tb := hs_w1 (k := 695) (by decide +kernel) (by decide +kernel)
theorem wc_58 : Cond.fieldLink RX7 17 "HeaderSqueezeModel" "sendAddress" "[I" ∈ hs_tb := hs_w1 (k := 696) (by decide +kernel) (by decide +kernel)
theorem wc_59 : Cond.fieldLink RX7 20 "HeaderSqueezeModel" "sendType" "[I" ∈ hs_tb := hs_w1 (k := 697) (by decide +kernel) (by decide +kernel)
theorem wc_60 : Cond.fieldLink RX7 23 "HeaderSqueezeModel" "sendStride" "[I" ∈ hs_tb := hs_w1 (k := 698) (by decide +kernel) (by decide +kernel)
theorem wc_61 : Cond.fieldLink RX7 26 "HeaderSqueezeModel" "sendPhase" "[I" ∈ hs_tb := hs_w1 (k := 699) (by decide +kernel) (by decide +kernel)
theorem wc_62 : Cond.fieldLink RX7 29 "HeaderSqueezeModel" "sendOffset" "[I" ∈ hs_tb := hs_w1 (k := 700) (by decide +kernel) (by decide +kernel)
theorem wc_63 : Cond.fieldLink RX7 32 "HeaderSqueezeModel" "state" "[I" ∈ hs_tb := hs_w1 (k := 701) (by decide +kernel) (by decide +kernel)
theorem wc_64 : Cond.fieldLink RX7 35 "HeaderSqueezeModel" "sent" "[I" ∈ hs_tb := hs_w1 (k := 702) (by decide +kernel) (by decide +kernel)
theorem wc_65 : Cond.fieldLink RX7 38 "HeaderSqueezeModel" "age" "[I" ∈ hs_tb := hs_w1 (k := 703) (by decide +kernel) (by decide +kernel)
theorem wc_66 : Cond.fieldLink RX7 41 "HeaderSqueezeModel" "known" "[I" ∈ hs_tb := hs_w1 (k := 704) (by decide +kernel) (by decide +kernel)
theorem wc_67 : Cond.fieldLink RX7 44 "HeaderSqueezeModel" "numbers" "[I" ∈ hs_tb := hs_w1 (k := 705) (by decide +kernel) (by decide +kernel)
theorem wc_68 : Cond.fieldLink RX7 47 "HeaderSqueezeModel" "sizes" "[I" ∈ hs_tb := hs_w1 (k := 707) (by decide +kernel) (by decide +kernel)
theorem wc_69 : Cond.fieldLink RX7 50 "HeaderSqueezeModel" "bytes" "[I" ∈ hs_tb := hs_w1 (k := 708) (by decide +kernel) (by decide +kernel)
theorem wc_70 : Cond.fieldLink RX7 53 "HeaderSqueezeModel" "level" "[I" ∈ hs_tb := hs_w1 (k := 709) (by decide +kernel) (by decide +kernel)
theorem wc_71 : Cond.fieldLink RX7 56 "HeaderSqueezeModel" "getAddress" "[I" ∈ hs_tb := hs_w1 (k := 710) (by decide +kernel) (by decide +kernel)
theorem wc_72 : Cond.fieldLink RX7 59 "HeaderSqueezeModel" "getType" "[I" ∈ hs_tb := hs_w1 (k := 711) (by decide +kernel) (by decide +kernel)
theorem wc_73 : Cond.fieldLink RX7 62 "HeaderSqueezeModel" "getStride" "[I" ∈ hs_tb := hs_w1 (k := 712) (by decide +kernel) (by decide +kernel)
theorem wc_74 : Cond.fieldLink RX7 65 "HeaderSqueezeModel" "getPhase" "[I" ∈ hs_tb := hs_w1 (k := 713) (by decide +kernel) (by decide +kernel)
theorem wc_75 : Cond.fieldLink RX7 68 "HeaderSqueezeModel" "getOffset" "[I" ∈ hs_tb := hs_w1 (k := 714) (by decide +kernel) (by decide +kernel)
theorem wc_76 : Cond.fieldLink RX7 71 "HeaderSqueezeModel" "last" "[I" ∈ hs_tb := hs_w1 (k := 715) (by decide +kernel) (by decide +kernel)
theorem wc_77 : Cond.fieldLink RX7 74 "HeaderSqueezeModel" "former" "[I" ∈ hs_tb := hs_w1 (k := 716) (by decide +kernel) (by decide +kernel)
theorem wc_78 : Cond.fieldLink RX7 77 "HeaderSqueezeModel" "failed" "[I" ∈ hs_tb := hs_w1 (k := 717) (by decide +kernel) (by decide +kernel)
theorem wc_79 : Cond.fieldLink RX7 80 "HeaderSqueezeModel" "made" "[I" ∈ hs_tb := hs_w1 (k := 718) (by decide +kernel) (by decide +kernel)
theorem wc_80 : Cond.fieldLink RX7 83 "HeaderSqueezeModel" "counts" "[I" ∈ hs_tb := hs_w1 (k := 719) (by decide +kernel) (by decide +kernel)
theorem wc_81 : Cond.fieldLink RX7 86 "HeaderSqueezeModel" "head" "[I" ∈ hs_tb := hs_w1 (k := 720) (by decide +kernel) (by decide +kernel)
theorem wc_82 : Cond.fieldLink RX7 89 "HeaderSqueezeModel" "packet" "[I" ∈ hs_tb := hs_w1 (k := 722) (by decide +kernel) (by decide +kernel)
set_option maxRecDepth 100000 in
set_option maxHeartbeats 4000000 in
theorem k_X0 : hs_ctor yX0_init cX0_init 1 1 0 0 (fun _ _ => []) (fun _ _ w1 => w1 = []) := hs_mkC (by decide +kernel) (by decide) (fun p l e s m args below meth c D cy A h0 Q ls C hini hfin hPD hl => by
  refine lv_aload_n C.1 C.2.1 dX0_init_0 rfl (lv_at hl 0 rfl) ?_
  refine hs_objI C wc_2 wc_0 wc_1 hl.1 (by constructor <;> decide) dX0_init_1 ?_
  exact hfin [] _ _ _ _ rfl hPD va_S.rf dX0_init_4)
set_option maxRecDepth 100000 in
set_option maxHeartbeats 4000000 in
theorem k_X1 : hs_ctor yX1_init cX1_init 1 1 0 0 (fun _ _ => []) (fun _ _ w1 => w1 = []) := hs_mkC (by decide +kernel) (by decide) (fun p l e s m args below meth c D cy A h0 Q ls C hini hfin hPD hl => by
  refine lv_aload_n C.1 C.2.1 dX1_init_0 rfl (lv_at hl 0 rfl) ?_
  refine hs_objI C wc_3 wc_0 wc_1 hl.1 (by constructor <;> decide) dX1_init_1 ?_
  exact hfin [] _ _ _ _ rfl hPD va_S.rf dX1_init_4)
set_option maxRecDepth 100000 in
set_option maxHeartbeats 4000000 in
theorem k_X3 : hs_ctor yX3_init cX3_init 1 1 1 17 (fun _ h => [(h, hs_eP .null)]) (fun cy h w1 => ∃ b, w1 = [(h, hs_eP (.ref b)), (b, hs_eI (cy 8) 17)]) := hs_mkC (by decide +kernel) (by decide) (fun p l e s m args below meth c D cy A h0 Q ls C hini hfin hPD hl => by
  have hS : va_S A s.heap s.heap [] := va_S.rf
  refine lv_aload_n C.1 C.2.1 dX3_init_0 rfl (lv_at hl 0 rfl) ?_
  refine hs_objI C wc_4 wc_0 wc_1 hl.1 (by constructor <;> decide) dX3_init_1 ?_
  refine lv_aload_n C.1 C.2.1 dX3_init_4 rfl (lv_at hl 0 rfl) ?_
  refine lv_bipush (v := 17) C.1 C.2.1 dX3_init_5 (by decide) ?_
  refine hs_newI C (ty := .int) (t0 := 0) (cA := cy 8) (N := 17) (a0 := (17, .inl (fun _ => 0))) rfl rfl wc_5 (fun _ => rfl) (fun _ _ h => h) (by decide) (by decide) (by decide) hPD hS (by decide) (by decide) dX3_init_7 (fun b H hPD hS => ?_)
  refine hs_putF C hini (ci := 5) (N := 5) (k := 0) (q0 := 1) rfl hi3 tyX3 tyX3_ok nmX3 (by decide) rfl rfl rfl rfl wc_6 hPD hS rfl dX3_init_9 (fun H locs hPD hS => ?_)
  have hPD : hs_PD D A [(b, hs_eI (cy 8) 17), (h0, hs_eP (.ref b))] H := hPD
  exact hfin _ _ _ _ _ ⟨b, rfl⟩ (hPD.perm (List.Perm.swap _ _ _)) hS dX3_init_12)
set_option maxRecDepth 100000 in
set_option maxHeartbeats 4000000 in
theorem k_X4 : hs_ctor yX4_init cX4_init 1 2 1 5 (fun _ h => [(h, hs_eR .null)]) (fun cy h w1 => ∃ b, w1 = [(h, hs_eR (.ref b)), (b, hs_eC)]) := hs_mkC (by decide +kernel) (by decide) (fun p l e s m args below meth c D cy A h0 Q ls C hini hfin hPD hl => by
  have hS : va_S A s.heap s.heap [] := va_S.rf
  refine lv_aload_n C.1 C.2.1 dX4_init_0 rfl (lv_at hl 0 rfl) ?_
  refine hs_objI C wc_7 wc_0 wc_1 hl.1 (by constructor <;> decide) dX4_init_1 ?_
  refine lv_aload_n C.1 C.2.1 dX4_init_4 rfl (lv_at hl 0 rfl) ?_
  refine hs_nonew C (ci := 2) (N := 5) rfl hi0 tyX0 tyX0_ok (by decide) wc_8 wc_9 wc_10 hPD hS (by decide) (by decide) dX4_init_5 (fs := [.int 0, .int 0, .int 0, .int 0, .int 0]) (fun b H hPD hS => ?_)
  refine lv_dup C.1 C.2.1 dX4_init_8 rfl ?_
  refine hs_init C k_X0 wc_11 wc_10 wc_12 rfl (by decide +kernel) (by decide +kernel) (by decide) (Or.inr ⟨by decide +kernel, rfl⟩) (by constructor <;> decide) hPD hS hl.1 (Nat.le_of_ble_eq_true rfl) (by constructor <;> decide) dX4_init_9 (fun w1 H locs hw hPD hS => ?_)
  subst hw
  refine hs_putF C hini (ci := 6) (N := 5) (k := 0) (q0 := 1) rfl hi4 tyX4 tyX4_ok nmX4 (by decide) rfl rfl rfl rfl wc_13 hPD hS rfl dX4_init_12 (fun H locs hPD hS => ?_)
  have hPD : hs_PD D A [(b, hs_eC), (h0, hs_eR (.ref b))] H := hPD
  exact hfin _ _ _ _ _ ⟨b, rfl⟩ (hPD.perm (List.Perm.swap _ _ _)) hS dX4_init_15)
set_option maxRecDepth 100000 in
set_option maxHeartbeats 4000000 in
theorem k_X5 : hs_ctor yX5_init cX5_init 1 2 2 9 (fun _ h => [(h, hs_eS .null .null)]) (fun cy h w1 => ∃ b n, w1 = [(h, hs_eS (.ref b) (.ref n)), (b, hs_eC), (n, hs_eI (cy 8) 4)]) := hs_mkC (by decide +kernel) (by decide) (fun p l e s m args below meth c D cy A h0 Q ls C hini hfin hPD hl => by
  have hS : va_S A s.heap s.heap [] := va_S.rf
  refine lv_aload_n C.1 C.2.1 dX5_init_0 rfl (lv_at hl 0 rfl) ?_
  refine hs_objI C wc_14 wc_0 wc_1 hl.1 (by constructor <;> decide) dX5_init_1 ?_
  refine lv_aload_n C.1 C.2.1 dX5_init_4 rfl (lv_at hl 0 rfl) ?_
  refine hs_nonew C (ci := 2) (N := 5) rfl hi0 tyX0 tyX0_ok (by decide) wc_15 wc_9 wc_10 hPD hS (by decide) (by decide) dX5_init_5 (fs := [.int 0, .int 0, .int 0, .int 0, .int 0]) (fun b H hPD hS => ?_)
  refine lv_dup C.1 C.2.1 dX5_init_8 rfl ?_
  refine hs_init C k_X0 wc_11 wc_10 wc_12 rfl (by decide +kernel) (by decide +kernel) (by decide) (Or.inr ⟨by decide +kernel, rfl⟩) (by constructor <;> decide) hPD hS hl.1 (Nat.le_of_ble_eq_true rfl) (by constructor <;> decide) dX5_init_9 (fun w1 H locs hw hPD hS => ?_)
  subst hw
  refine hs_putF C hini (ci := 7) (N := 8) (k := 0) (q0 := 1) rfl hi5 tyX5 tyX5_ok nmX5 (by decide) rfl rfl rfl rfl wc_16 hPD hS rfl dX5_init_12 (fun H locs hPD hS => ?_)
  have hPD : hs_PD D A [(b, hs_eC), (h0, hs_eS (.ref b) .null)] H := hPD
  refine lv_aload_n C.1 C.2.1 dX5_init_15 rfl (lv_at hl 0 rfl) ?_
  refine lv_iconst (v := 4) C.1 C.2.1 dX5_init_16 (by decide) ?_
  refine hs_newI C (ty := .int) (t0 := 0) (cA := cy 8) (N := 4) (a0 := (4, .inl (fun _ => 0))) rfl rfl wc_5 (fun _ => rfl) (fun _ _ h => h) (by decide) (by decide) (by decide) hPD hS (by decide) (by decide) dX5_init_17 (fun n H hPD hS => ?_)
  refine hs_putF C hini (ci := 7) (N := 8) (k := 6) (q0 := 2) rfl hi5 tyX5 tyX5_ok nmX5 (by decide) rfl rfl rfl rfl wc_17 hPD hS rfl dX5_init_19 (fun H locs hPD hS => ?_)
  have hPD : hs_PD D A [(n, hs_eI (cy 8) 4), (b, hs_eC), (h0, hs_eS (.ref b) (.ref n))] H := hPD
  exact hfin _ _ _ _ _ ⟨b, n, rfl⟩ (hPD.perm (List.reverse_perm [(h0, hs_eS (.ref b) (.ref n)), (b, hs_eC), (n, hs_eI (cy 8) 4)])) hS dX5_init_22)
/-- the packets of a line, the latest first -/
def hs_pk (cy : Nat → ClassId) (pa ba : Nat → Nat) : Nat → va_W
  | 0 => []
  | k + 1 => (pa k, hs_eP (.ref (ba k))) :: (ba k, hs_eI (cy 8) 17) :: hs_pk cy pa ba k
theorem hs_pk_c {cy : Nat → ClassId} {pa ba pa' ba' : Nat → Nat} : ∀ k, (∀ j, j < k → pa' j = pa j ∧ ba' j = ba j) → hs_pk cy pa' ba' k = hs_pk cy pa ba k
  | 0, _ => rfl
  | k + 1, h => by
    show _ :: _ :: hs_pk cy pa' ba' k = _ :: _ :: hs_pk cy pa ba k
    rw [(h k (Nat.lt_succ_self k)).1, (h k (Nat.lt_succ_self k)).2, hs_pk_c k (fun j hj => h j (Nat.lt_succ_of_lt hj))]
def hs_fk (pa : Nat → Nat) (k : Nat) : Nat → Option Nat := fun j => if j < k then some (pa j) else none
theorem hs_fk_s (pa : Nat → Nat) (k p : Nat) : va_up (hs_fk pa k) k (some p) = hs_fk (va_up pa k p) (k + 1) := by
  funext j
  by_cases hj : j = k
  · subst hj
    simp [va_up, hs_fk]
  · by_cases h2 : j < k
    · simp [va_up, hs_fk, hj, h2, Nat.lt_succ_of_lt h2]
    · simp [va_up, hs_fk, hj, h2, show ¬ j < k + 1 by omega]
set_option maxRecDepth 100000 in
set_option maxHeartbeats 4000000 in
theorem k_X2_loop {p : Program} {l : Launch} {e : Env} {s : State} {m : MethodId} {args : Array Value} {below : List Frame} {meth : Method} {c : Code} {D : va_G} {cy : Nat → ClassId} {A : Nat → Prop} {h0 : Nat} {Q : State → Prop} (C : hs_B p s m args c RX2 cX2_init 2 D cy A) (r : Nat)
    (hfin : ∀ (w1 : va_W) (H : Heap) (locs : List Loc) (ls : Array Slot) (pc : Nat), (∃ (r : Nat) (pa ba : Nat → Nat), w1 = (h0, hs_eL (.ref r)) :: (r, hs_eQ (cy 10) 9 (hs_fk pa 9)) :: hs_pk cy pa ba 9) → hs_PD D A w1 H → va_S A s.heap H locs → decode cX2_init pc = .ok (.return_, 1) → W p l e (hs_rmc 2 19 207) s m args below meth c H locs 19 207 Q (F0 m pc ls [])) :
    ∀ (n k : Nat), k + n = 9 → ∀ (pa ba : Nat → Nat) (H : Heap) (locs : List Loc) (ls : Array Slot), hs_PD D A ((h0, hs_eL (.ref r)) :: (r, hs_eQ (cy 10) 9 (hs_fk pa k)) :: hs_pk cy pa ba k) H → va_S A s.heap H locs → lv_has ls 2 [(1, .int (nI k)), (0, .ref h0)] → W p l e (hs_rmc 2 19 207) s m args below meth c H locs (1 + 2 * k) (9 + 22 * k) Q (F0 m 15 ls []) := by
  intro n
  induction n with
  | zero =>
    intro k hk pa ba H locs ls hPD hS hl
    have hk9 : k = 9 := by omega
    subst hk9
    refine lv_iload_n C.1 C.2.1 dX2_init_15 rfl (lv_at hl 0 rfl) ?_
    refine lv_bipush (v := 8) C.1 C.2.1 dX2_init_16 (by decide) ?_
    refine lv_icmp_gt (tgt := 40) C.1 C.2.1 dX2_init_18 (by decide) (fun _ => ?_) (fun c9 => absurd (by decide) c9)
    exact hfin _ _ _ _ _ ⟨r, pa, ba, rfl⟩ hPD hS dX2_init_40
  | succ n ih =>
    intro k hk pa ba H locs ls hPD hS hl
    have hk9 : k < 9 := by omega
    refine lv_iload_n C.1 C.2.1 dX2_init_15 rfl (lv_at hl 0 rfl) ?_
    refine lv_bipush (v := 8) C.1 C.2.1 dX2_init_16 (by decide) ?_
    refine lv_icmp_gt (tgt := 40) C.1 C.2.1 dX2_init_18 (by decide) (fun c9 => absurd (show nI 8 < nI k from c9) (nI_nlt (by omega) (by omega))) (fun _ => ?_)
    refine lv_aload_n C.1 C.2.1 dX2_init_21 rfl (lv_at hl 1 rfl) ?_
    refine hs_getF C (ci := 4) (k := 0) (q0 := 0) (N := 2) rfl hi2 (by decide) wc_18 hPD rfl rfl dX2_init_22 ?_
    refine lv_iload_n C.1 C.2.1 dX2_init_25 rfl (lv_at hl 0 rfl) ?_
    refine hs_nonew C (ci := 5) (N := 5) rfl hi3 tyX3 tyX3_ok (by decide) wc_19 wc_20 wc_21 hPD hS (by show _ + 1 ≤ 19; omega) (by show _ + 5 ≤ 207; omega) dX2_init_26 (fs := [.null, .int 0, .int 0, .int 0, .int 0]) (fun q H hPD hS => ?_)
    refine lv_dup C.1 C.2.1 dX2_init_29 rfl ?_
    refine hs_init C k_X3 wc_22 wc_21 wc_23 rfl (by decide +kernel) (by decide +kernel) (by decide) (Or.inr ⟨by decide +kernel, rfl⟩) (by constructor <;> decide) (r := (h0, hs_eL (.ref r)) :: (r, hs_eQ (cy 10) 9 (hs_fk pa k)) :: hs_pk cy pa ba k) hPD hS hl.1 (Nat.le_of_ble_eq_true rfl) (by constructor; (show _ + 1 ≤ 19; omega); (show _ + 17 ≤ 207; omega)) dX2_init_30 (fun w1 H locs hw hPD hS => ?_)
    obtain ⟨b, rfl⟩ := hw
    have hc9 : (nI k).toNatClampNeg = k := nI_clamp (by omega)
    refine hs_astq C (t0 := 1) (q0 := 3) (qk := 0) (ci := 5) (r := (RX3, TX3, 5)) (n := 9) (f := hs_fk pa k) rfl rfl hc9 (vp_in_nI hk9 (by decide)) hPD hS rfl rfl dX2_init_33 (fun H locs hPD hS => ?_)
    rw [hs_fk_s] at hPD
    refine lv_iinc (v := nI (k + 1)) (lv' := [(1, .int (nI (k + 1))), (0, .ref h0)]) C.1 C.2.1 dX2_init_34 hl (k := 0) rfl (nI_1 k) (by decide) rfl (fun ls hl => ?_)
    refine lv_goto (tgt := 15) C.1 C.2.1 dX2_init_37 (by decide) ?_
    have e1 : hs_pk cy (va_up pa k q) (va_up ba k b) k = hs_pk cy pa ba k := hs_pk_c k (fun j hj => ⟨va_up_ne _ _ (by omega), va_up_ne _ _ (by omega)⟩)
    refine ih (k + 1) (by omega) (va_up pa k q) (va_up ba k b) H locs ls ?_ hS hl
    have e2 : hs_pk cy (va_up pa k q) (va_up ba k b) (k + 1) = (q, hs_eP (.ref b)) :: (b, hs_eI (cy 8) 17) :: hs_pk cy pa ba k := by
      show (va_up pa k q k, hs_eP (.ref (va_up ba k b k))) :: (va_up ba k b k, hs_eI (cy 8) 17) :: _ = _
      rw [e1]
      simp [va_up]
    rw [e2]
    exact hPD.perm (List.perm_append_comm_assoc [(q, hs_eP (.ref b)), (b, hs_eI (cy 8) 17)] [(h0, hs_eL (.ref r)), (r, hs_eQ (cy 10) 9 (hs_fk (va_up pa k q) (k + 1)))] (hs_pk cy pa ba k))
set_option maxRecDepth 100000 in
set_option maxHeartbeats 4000000 in
theorem k_X2 : hs_ctor yX2_init cX2_init 2 2 19 207 (fun _ h => [(h, hs_eL .null)]) (fun cy h w1 => ∃ (r : Nat) (pa ba : Nat → Nat), w1 = (h, hs_eL (.ref r)) :: (r, hs_eQ (cy 10) 9 (hs_fk pa 9)) :: hs_pk cy pa ba 9) := hs_mkC (by decide +kernel) (by decide) (fun p l e s m args below meth c D cy A h0 Q ls C hini hfin hPD hl => by
  have hS : va_S A s.heap s.heap [] := va_S.rf
  refine lv_aload_n C.1 C.2.1 dX2_init_0 rfl (lv_at hl 0 rfl) ?_
  refine hs_objI C wc_24 wc_0 wc_1 hl.1 (by constructor <;> decide) dX2_init_1 ?_
  refine lv_aload_n C.1 C.2.1 dX2_init_4 rfl (lv_at hl 0 rfl) ?_
  refine lv_bipush (v := 9) C.1 C.2.1 dX2_init_5 (by decide) ?_
  refine hs_newQ C (t0 := 1) (cA := cy 10) (N := 9) rfl C.2.2.2.2.2.1.2.1 wc_19 (by decide) (by decide) (by decide) hPD hS (by decide) (by decide) dX2_init_7 (fun r H hPD hS => ?_)
  refine hs_putF C hini (ci := 4) (N := 2) (k := 0) (q0 := 1) rfl hi2 tyX2 tyX2_ok nmX2 (by decide) rfl rfl rfl rfl wc_18 hPD hS rfl dX2_init_10 (fun H locs hPD hS => ?_)
  have hPD : hs_PD D A [(r, hs_eQ (cy 10) 9 (fun _ => none)), (h0, hs_eL (.ref r))] H := hPD
  refine lv_iconst (v := 0) C.1 C.2.1 dX2_init_13 (by decide) ?_
  refine lv_istore_n (lv' := [(1, .int 0), (0, .ref h0)]) C.1 C.2.1 dX2_init_14 rfl hl (by decide) rfl (fun ls hl => ?_)
  have e0 : (fun _ : Nat => (none : Option Nat)) = hs_fk (fun _ => 0) 0 := by funext j; simp [hs_fk]
  rw [e0] at hPD
  exact k_X2_loop C r hfin 9 0 rfl (fun _ => 0) (fun _ => 0) H locs ls (hPD.perm (List.Perm.swap _ _ _)) hS hl)
/-- the two sides, the latest first -/
def hs_sr (cy : Nat → ClassId) (a : Nat → Nat → Nat) : Nat → va_W
  | 0 => []
  | k + 1 => (a 3 k, hs_eR (.ref (a 4 k))) :: (a 4 k, hs_eC) :: (a 0 k, hs_eS (.ref (a 1 k)) (.ref (a 2 k))) :: (a 1 k, hs_eC) :: (a 2 k, hs_eI (cy 8) 4) :: hs_sr cy a k
theorem hs_sr_c {cy : Nat → ClassId} {a a' : Nat → Nat → Nat} : ∀ k, (∀ i j, j < k → a' i j = a i j) → hs_sr cy a' k = hs_sr cy a k
  | 0, _ => rfl
  | k + 1, h => by
    have z := fun i => h i k (Nat.lt_succ_self k)
    show _ :: _ :: _ :: _ :: _ :: hs_sr cy a' k = _ :: _ :: _ :: _ :: _ :: hs_sr cy a k
    rw [z 0, z 1, z 2, z 3, z 4, hs_sr_c k (fun i j hj => h i j (Nat.lt_succ_of_lt hj))]
def hs_a5 (a : Nat → Nat → Nat) (k x0 x1 x2 x3 x4 : Nat) : Nat → Nat → Nat := fun i => va_up (a i) k (if i = 0 then x0 else if i = 1 then x1 else if i = 2 then x2 else if i = 3 then x3 else x4)
set_option maxRecDepth 100000 in
set_option maxHeartbeats 4000000 in
theorem k_X6_loop {p : Program} {l : Launch} {e : Env} {s : State} {m : MethodId} {args : Array Value} {below : List Frame} {meth : Method} {c : Code} {D : va_G} {cy : Nat → ClassId} {A : Nat → Prop} {h0 : Nat} {Q : State → Prop} (C : hs_B p s m args c RX6 cX6_init 2 D cy A) (n1 n2 sa ra n5 n6 n7 : Nat) (L : va_W)
    (hfin : ∀ (a : Nat → Nat → Nat) (H : Heap) (locs : List Loc) (ls : Array Slot), hs_PD D A ((h0, hs_eHS (.ref n1) (.ref n2) (.ref sa) (.ref ra) (.ref n5) (.ref n6) (.ref n7)) :: (sa, hs_eQ (cy 12) 4 (hs_fk (a 0) 4)) :: (ra, hs_eQ (cy 11) 4 (hs_fk (a 3) 4)) :: (hs_sr cy a 4 ++ L)) H → va_S A s.heap H locs → W p l e (hs_rmc 3 46 354) s m args below meth c H locs 46 354 Q (F0 m 111 ls [])) :
    ∀ (n k : Nat), k + n = 4 → ∀ (a : Nat → Nat → Nat) (H : Heap) (locs : List Loc) (ls : Array Slot), hs_PD D A ((h0, hs_eHS (.ref n1) (.ref n2) (.ref sa) (.ref ra) (.ref n5) (.ref n6) (.ref n7)) :: (sa, hs_eQ (cy 12) 4 (hs_fk (a 0) k)) :: (ra, hs_eQ (cy 11) 4 (hs_fk (a 3) k)) :: (hs_sr cy a k ++ L)) H → va_S A s.heap H locs → lv_has ls 2 [(1, .int (nI k)), (0, .ref h0)] → W p l e (hs_rmc 3 46 354) s m args below meth c H locs (26 + 5 * k) (246 + 27 * k) Q (F0 m 74 ls []) := by
  intro n
  induction n with
  | zero =>
    intro k hk a H locs ls hPD hS hl
    have hk9 : k = 4 := by omega
    subst hk9
    refine lv_iload_n C.1 C.2.1 dX6_init_74 rfl (lv_at hl 0 rfl) ?_
    refine lv_iconst (v := 4) C.1 C.2.1 dX6_init_75 (by decide) ?_
    refine lv_icmp_ge (tgt := 111) C.1 C.2.1 dX6_init_76 (by decide) (fun _ => ?_) (fun c9 => absurd (by decide) c9)
    exact hfin a _ _ _ hPD hS
  | succ n ih =>
    intro k hk a H locs ls hPD hS hl
    have hk9 : k < 4 := by omega
    have hc9 : (nI k).toNatClampNeg = k := nI_clamp (by omega)
    refine lv_iload_n C.1 C.2.1 dX6_init_74 rfl (lv_at hl 0 rfl) ?_
    refine lv_iconst (v := 4) C.1 C.2.1 dX6_init_75 (by decide) ?_
    refine lv_icmp_ge (tgt := 111) C.1 C.2.1 dX6_init_76 (by decide) (fun c9 => absurd (show nI 4 ≤ nI k from c9) (nI_ge (by omega) (by omega))) (fun _ => ?_)
    refine lv_aload_n C.1 C.2.1 dX6_init_79 rfl (lv_at hl 1 rfl) ?_
    refine hs_getF C (ci := 8) (k := 2) (q0 := 0) (N := 7) rfl hi6 (by decide) wc_25 hPD rfl rfl dX6_init_80 ?_
    refine lv_iload_n C.1 C.2.1 dX6_init_83 rfl (lv_at hl 0 rfl) ?_
    refine hs_nonew C (ci := 7) (N := 8) rfl hi5 tyX5 tyX5_ok (by decide) wc_27 wc_28 wc_29 hPD hS (by show _ + 1 ≤ 46; omega) (by show _ + 8 ≤ 354; omega) dX6_init_84 (fs := [.null, .int 0, .int 0, .int 0, .int 0, .int 0, .null, .int 0]) (fun x0 H hPD hS => ?_)
    refine lv_dup C.1 C.2.1 dX6_init_87 rfl ?_
    refine hs_init C k_X5 wc_30 wc_29 wc_31 rfl (by decide +kernel) (by decide +kernel) (by decide) (Or.inr ⟨by decide +kernel, rfl⟩) (by constructor <;> decide) (r := _ :: _) hPD hS hl.1 (Nat.le_of_ble_eq_true rfl) (by constructor; (show _ + 2 ≤ 46; omega); (show _ + 9 ≤ 354; omega)) dX6_init_88 (fun w1 H locs hw hPD hS => ?_)
    obtain ⟨x1, x2, rfl⟩ := hw
    refine hs_astq C (t0 := 3) (q0 := 4) (qk := 0) (ci := 7) (r := (RX5, TX5, 8)) (n := 4) (f := hs_fk (a 0) k) rfl rfl hc9 (vp_in_nI hk9 (by decide)) hPD hS rfl rfl dX6_init_91 (fun H locs hPD hS => ?_)
    refine lv_aload_n C.1 C.2.1 dX6_init_92 rfl (lv_at hl 1 rfl) ?_
    refine hs_getF C (ci := 8) (k := 3) (q0 := 3) (N := 7) rfl hi6 (by decide) wc_26 hPD rfl rfl dX6_init_93 ?_
    refine lv_iload_n C.1 C.2.1 dX6_init_96 rfl (lv_at hl 0 rfl) ?_
    refine hs_nonew C (ci := 6) (N := 5) rfl hi4 tyX4 tyX4_ok (by decide) wc_32 wc_33 wc_34 hPD hS (by show _ + 1 ≤ 46; omega) (by show _ + 5 ≤ 354; omega) dX6_init_97 (fs := [.null, .int 0, .int 0, .int 0, .int 0]) (fun x3 H hPD hS => ?_)
    refine lv_dup C.1 C.2.1 dX6_init_100 rfl ?_
    refine hs_init C k_X4 wc_35 wc_34 wc_36 rfl (by decide +kernel) (by decide +kernel) (by decide) (Or.inr ⟨by decide +kernel, rfl⟩) (by constructor <;> decide) (r := _ :: _) hPD hS hl.1 (Nat.le_of_ble_eq_true rfl) (by constructor; (show _ + 1 ≤ 46; omega); (show _ + 5 ≤ 354; omega)) dX6_init_101 (fun w1 H locs hw hPD hS => ?_)
    obtain ⟨x4, rfl⟩ := hw
    refine hs_astq C (t0 := 2) (q0 := 7) (qk := 0) (ci := 6) (r := (RX4, TX4, 5)) (n := 4) (f := hs_fk (a 3) k) rfl rfl hc9 (vp_in_nI hk9 (by decide)) hPD hS rfl rfl dX6_init_104 (fun H locs hPD hS => ?_)
    refine lv_iinc (v := nI (k + 1)) (lv' := [(1, .int (nI (k + 1))), (0, .ref h0)]) C.1 C.2.1 dX6_init_105 hl (k := 0) rfl (nI_1 k) (by decide) rfl (fun ls hl => ?_)
    refine lv_goto (tgt := 74) C.1 C.2.1 dX6_init_108 (by decide) ?_
    have hPD : hs_PD D A ([(x3, hs_eR (.ref x4)), (x4, hs_eC), (x0, hs_eS (.ref x1) (.ref x2)), (x1, hs_eC), (x2, hs_eI (cy 8) 4)] ++ ([(h0, hs_eHS (.ref n1) (.ref n2) (.ref sa) (.ref ra) (.ref n5) (.ref n6) (.ref n7)), (sa, hs_eQ (cy 12) 4 (va_up (hs_fk (a 0) k) k (some x0))), (ra, hs_eQ (cy 11) 4 (va_up (hs_fk (a 3) k) k (some x3)))] ++ (hs_sr cy a k ++ L))) H := hPD
    rw [hs_fk_s, hs_fk_s] at hPD
    have hPD := hPD.perm (List.perm_append_comm_assoc _ _ _)
    have e1 : hs_sr cy (hs_a5 a k x0 x1 x2 x3 x4) k = hs_sr cy a k := hs_sr_c k (fun i j hj => va_up_ne _ _ (by omega))
    have e2 : hs_sr cy (hs_a5 a k x0 x1 x2 x3 x4) (k + 1) = (x3, hs_eR (.ref x4)) :: (x4, hs_eC) :: (x0, hs_eS (.ref x1) (.ref x2)) :: (x1, hs_eC) :: (x2, hs_eI (cy 8) 4) :: hs_sr cy a k := by
      show (hs_a5 a k x0 x1 x2 x3 x4 3 k, hs_eR (.ref (hs_a5 a k x0 x1 x2 x3 x4 4 k))) :: (hs_a5 a k x0 x1 x2 x3 x4 4 k, hs_eC) :: (hs_a5 a k x0 x1 x2 x3 x4 0 k, hs_eS (.ref (hs_a5 a k x0 x1 x2 x3 x4 1 k)) (.ref (hs_a5 a k x0 x1 x2 x3 x4 2 k))) :: (hs_a5 a k x0 x1 x2 x3 x4 1 k, hs_eC) :: (hs_a5 a k x0 x1 x2 x3 x4 2 k, hs_eI (cy 8) 4) :: hs_sr cy (hs_a5 a k x0 x1 x2 x3 x4) k = _
      rw [e1]
      simp [hs_a5, va_up]
    refine ih (k + 1) (by omega) (hs_a5 a k x0 x1 x2 x3 x4) H locs ls ?_ hS hl
    rw [e2]
    exact hPD
set_option maxRecDepth 100000 in
set_option maxHeartbeats 4000000 in
theorem k_X6 : hs_ctor yX6_init cX6_init 2 3 46 354 (fun _ h => [(h, hs_eHS .null .null .null .null .null .null .null)]) (fun cy h w1 => ∃ (n1 n2 sa ra n5 n6 n7 r : Nat) (pa ba : Nat → Nat) (a : Nat → Nat → Nat), w1 = (h, hs_eHS (.ref n1) (.ref n2) (.ref sa) (.ref ra) (.ref n5) (.ref n6) (.ref n7)) :: (sa, hs_eQ (cy 12) 4 (hs_fk (a 0) 4)) :: (ra, hs_eQ (cy 11) 4 (hs_fk (a 3) 4)) :: (hs_sr cy a 4 ++ ((n7, hs_eH) :: (n6, hs_eH) :: (n5, hs_eI (cy 8) 11) :: (((n2, hs_eL (.ref r)) :: (r, hs_eQ (cy 10) 9 (hs_fk pa 9)) :: hs_pk cy pa ba 9) ++ [(n1, hs_eH)])))) := hs_mkC (by decide +kernel) (by decide) (fun p l e s m args below meth c D cy A h0 Q ls C hini hfin hPD hl => by
  have hS : va_S A s.heap s.heap [] := va_S.rf
  refine lv_aload_n C.1 C.2.1 dX6_init_0 rfl (lv_at hl 0 rfl) ?_
  refine hs_objI C wc_37 wc_0 wc_1 hl.1 (by constructor <;> decide) dX6_init_1 ?_
  refine lv_aload_n C.1 C.2.1 dX6_init_4 rfl (lv_at hl 0 rfl) ?_
  refine hs_nonew C (ci := 3) (N := 6) rfl hi1 tyX1 tyX1_ok (by decide) wc_38 wc_39 wc_40 hPD hS (by decide) (by decide) dX6_init_5 (fs := [.int 0, .int 0, .int 0, .int 0, .int 0, .int 0]) (fun n1 H hPD hS => ?_)
  refine lv_dup C.1 C.2.1 dX6_init_8 rfl ?_
  refine hs_init C k_X1 wc_41 wc_40 wc_42 rfl (by decide +kernel) (by decide +kernel) (by decide) (Or.inr ⟨by decide +kernel, rfl⟩) (by constructor <;> decide) hPD hS hl.1 (Nat.le_of_ble_eq_true rfl) (by constructor <;> decide) dX6_init_9 (fun w1 H locs hw hPD hS => ?_)
  subst hw
  have hPD : hs_PD D A ((n1, hs_eH) :: (h0, hs_eHS .null .null .null .null .null .null .null) :: []) H := hPD
  have hPD := hPD.perm (List.Perm.swap _ _ _)
  refine hs_putF C hini (ci := 8) (N := 7) (k := 0) (q0 := 0) rfl hi6 tyX6 tyX6_ok nmX6 (by decide) rfl rfl rfl rfl wc_43 hPD hS rfl dX6_init_12 (fun H locs hPD hS => ?_)
  have hPD : hs_PD D A ((h0, hs_eHS (.ref n1) .null .null .null .null .null .null) :: [(n1, hs_eH)]) H := hPD
  refine lv_aload_n C.1 C.2.1 dX6_init_15 rfl (lv_at hl 0 rfl) ?_
  refine hs_nonew C (ci := 4) (N := 2) rfl hi2 tyX2 tyX2_ok (by decide) wc_44 wc_45 wc_46 hPD hS (by decide) (by decide) dX6_init_16 (fs := [.null, .int 0]) (fun n2 H hPD hS => ?_)
  refine lv_dup C.1 C.2.1 dX6_init_19 rfl ?_
  refine hs_init C k_X2 wc_48 wc_46 wc_49 rfl (by decide +kernel) (by decide +kernel) (by decide) (Or.inl wc_47) (by constructor <;> decide) (r := _ :: _) hPD hS hl.1 (Nat.le_of_ble_eq_true rfl) (by constructor <;> decide) dX6_init_20 (fun w1 H locs hw hPD hS => ?_)
  obtain ⟨r, pa, ba, rfl⟩ := hw
  have hPD := hPD.perm List.perm_middle
  refine hs_putF C hini (ci := 8) (N := 7) (k := 1) (q0 := 0) rfl hi6 tyX6 tyX6_ok nmX6 (by decide) rfl rfl rfl rfl wc_50 hPD hS rfl dX6_init_23 (fun H locs hPD hS => ?_)
  have hPD : hs_PD D A ((h0, hs_eHS (.ref n1) (.ref n2) .null .null .null .null .null) :: (((n2, hs_eL (.ref r)) :: (r, hs_eQ (cy 10) 9 (hs_fk pa 9)) :: hs_pk cy pa ba 9) ++ [(n1, hs_eH)])) H := hPD
  obtain ⟨Lt, hLt⟩ : ∃ z, z = ((n2, hs_eL (.ref r)) :: (r, hs_eQ (cy 10) 9 (hs_fk pa 9)) :: hs_pk cy pa ba 9) ++ [(n1, hs_eH)] := ⟨_, rfl⟩
  rw [← hLt] at hPD
  refine lv_aload_n C.1 C.2.1 dX6_init_26 rfl (lv_at hl 0 rfl) ?_
  refine lv_iconst (v := 4) C.1 C.2.1 dX6_init_27 (by decide) ?_
  refine hs_newQ C (t0 := 3) (cA := cy 12) (N := 4) rfl C.2.2.2.2.2.1.2.2.2.1 wc_27 (by decide) (by decide) (by decide) hPD hS (by decide) (by decide) dX6_init_28 (fun sa H hPD hS => ?_)
  have hPD := hPD.perm (List.Perm.swap _ _ _)
  refine hs_putF C hini (ci := 8) (N := 7) (k := 2) (q0 := 0) rfl hi6 tyX6 tyX6_ok nmX6 (by decide) rfl rfl rfl rfl wc_25 hPD hS rfl dX6_init_31 (fun H locs hPD hS => ?_)
  have hPD : hs_PD D A ((h0, hs_eHS (.ref n1) (.ref n2) (.ref sa) .null .null .null .null) :: (sa, hs_eQ (cy 12) 4 (fun _ => none)) :: Lt) H := hPD
  refine lv_aload_n C.1 C.2.1 dX6_init_34 rfl (lv_at hl 0 rfl) ?_
  refine lv_iconst (v := 4) C.1 C.2.1 dX6_init_35 (by decide) ?_
  refine hs_newQ C (t0 := 2) (cA := cy 11) (N := 4) rfl C.2.2.2.2.2.1.2.2.1 wc_32 (by decide) (by decide) (by decide) hPD hS (by decide) (by decide) dX6_init_36 (fun ra H hPD hS => ?_)
  have hPD := hPD.perm (List.Perm.swap _ _ _)
  refine hs_putF C hini (ci := 8) (N := 7) (k := 3) (q0 := 0) rfl hi6 tyX6 tyX6_ok nmX6 (by decide) rfl rfl rfl rfl wc_26 hPD hS rfl dX6_init_39 (fun H locs hPD hS => ?_)
  have hPD : hs_PD D A ((h0, hs_eHS (.ref n1) (.ref n2) (.ref sa) (.ref ra) .null .null .null) :: (ra, hs_eQ (cy 11) 4 (fun _ => none)) :: (sa, hs_eQ (cy 12) 4 (fun _ => none)) :: Lt) H := hPD
  refine lv_aload_n C.1 C.2.1 dX6_init_42 rfl (lv_at hl 0 rfl) ?_
  refine lv_bipush (v := 11) C.1 C.2.1 dX6_init_43 (by decide) ?_
  refine hs_newI C (ty := .int) (t0 := 0) (cA := cy 8) (N := 11) (a0 := (11, .inl (fun _ => 0))) rfl rfl wc_5 (fun _ => rfl) (fun _ _ h => h) (by decide) (by decide) (by decide) hPD hS (by decide) (by decide) dX6_init_45 (fun n5 H hPD hS => ?_)
  have hPD := hPD.perm (List.Perm.swap _ _ _)
  refine hs_putF C hini (ci := 8) (N := 7) (k := 4) (q0 := 0) rfl hi6 tyX6 tyX6_ok nmX6 (by decide) rfl rfl rfl rfl wc_51 hPD hS rfl dX6_init_47 (fun H locs hPD hS => ?_)
  have hPD : hs_PD D A ((h0, hs_eHS (.ref n1) (.ref n2) (.ref sa) (.ref ra) (.ref n5) .null .null) :: (n5, hs_eI (cy 8) 11) :: (ra, hs_eQ (cy 11) 4 (fun _ => none)) :: (sa, hs_eQ (cy 12) 4 (fun _ => none)) :: Lt) H := hPD
  refine lv_aload_n C.1 C.2.1 dX6_init_50 rfl (lv_at hl 0 rfl) ?_
  refine hs_nonew C (ci := 3) (N := 6) rfl hi1 tyX1 tyX1_ok (by decide) wc_38 wc_39 wc_40 hPD hS (by decide) (by decide) dX6_init_51 (fs := [.int 0, .int 0, .int 0, .int 0, .int 0, .int 0]) (fun n6 H hPD hS => ?_)
  refine lv_dup C.1 C.2.1 dX6_init_54 rfl ?_
  refine hs_init C k_X1 wc_41 wc_40 wc_42 rfl (by decide +kernel) (by decide +kernel) (by decide) (Or.inr ⟨by decide +kernel, rfl⟩) (by constructor <;> decide) hPD hS hl.1 (Nat.le_of_ble_eq_true rfl) (by constructor <;> decide) dX6_init_55 (fun w1 H locs hw hPD hS => ?_)
  subst hw
  have hPD := hPD.perm (List.Perm.swap _ _ _)
  refine hs_putF C hini (ci := 8) (N := 7) (k := 5) (q0 := 0) rfl hi6 tyX6 tyX6_ok nmX6 (by decide) rfl rfl rfl rfl wc_52 hPD hS rfl dX6_init_58 (fun H locs hPD hS => ?_)
  have hPD : hs_PD D A ((h0, hs_eHS (.ref n1) (.ref n2) (.ref sa) (.ref ra) (.ref n5) (.ref n6) .null) :: (n6, hs_eH) :: (n5, hs_eI (cy 8) 11) :: (ra, hs_eQ (cy 11) 4 (fun _ => none)) :: (sa, hs_eQ (cy 12) 4 (fun _ => none)) :: Lt) H := hPD
  refine lv_aload_n C.1 C.2.1 dX6_init_61 rfl (lv_at hl 0 rfl) ?_
  refine hs_nonew C (ci := 3) (N := 6) rfl hi1 tyX1 tyX1_ok (by decide) wc_38 wc_39 wc_40 hPD hS (by decide) (by decide) dX6_init_62 (fs := [.int 0, .int 0, .int 0, .int 0, .int 0, .int 0]) (fun n7 H hPD hS => ?_)
  refine lv_dup C.1 C.2.1 dX6_init_65 rfl ?_
  refine hs_init C k_X1 wc_41 wc_40 wc_42 rfl (by decide +kernel) (by decide +kernel) (by decide) (Or.inr ⟨by decide +kernel, rfl⟩) (by constructor <;> decide) hPD hS hl.1 (Nat.le_of_ble_eq_true rfl) (by constructor <;> decide) dX6_init_66 (fun w1 H locs hw hPD hS => ?_)
  subst hw
  have hPD := hPD.perm (List.Perm.swap _ _ _)
  refine hs_putF C hini (ci := 8) (N := 7) (k := 6) (q0 := 0) rfl hi6 tyX6 tyX6_ok nmX6 (by decide) rfl rfl rfl rfl wc_53 hPD hS rfl dX6_init_69 (fun H locs hPD hS => ?_)
  have hPD : hs_PD D A ((h0, hs_eHS (.ref n1) (.ref n2) (.ref sa) (.ref ra) (.ref n5) (.ref n6) (.ref n7)) :: (n7, hs_eH) :: (n6, hs_eH) :: (n5, hs_eI (cy 8) 11) :: (ra, hs_eQ (cy 11) 4 (fun _ => none)) :: (sa, hs_eQ (cy 12) 4 (fun _ => none)) :: Lt) H := hPD
  refine lv_iconst (v := 0) C.1 C.2.1 dX6_init_72 (by decide) ?_
  refine lv_istore_n (lv' := [(1, .int 0), (0, .ref h0)]) C.1 C.2.1 dX6_init_73 rfl hl (by decide) rfl (fun ls hl => ?_)
  have e0 : (fun _ : Nat => (none : Option Nat)) = hs_fk ((fun _ _ => 0 : Nat → Nat → Nat) 0) 0 := by funext j; simp [hs_fk]
  rw [e0] at hPD
  have hp : (((h0, hs_eHS (.ref n1) (.ref n2) (.ref sa) (.ref ra) (.ref n5) (.ref n6) (.ref n7)) :: (n7, hs_eH) :: (n6, hs_eH) :: (n5, hs_eI (cy 8) 11) :: (ra, hs_eQ (cy 11) 4 (hs_fk ((fun _ _ => 0 : Nat → Nat → Nat) 0) 0)) :: (sa, hs_eQ (cy 12) 4 (hs_fk ((fun _ _ => 0 : Nat → Nat → Nat) 0) 0)) :: Lt) : va_W).Perm ((h0, hs_eHS (.ref n1) (.ref n2) (.ref sa) (.ref ra) (.ref n5) (.ref n6) (.ref n7)) :: (sa, hs_eQ (cy 12) 4 (hs_fk ((fun _ _ => 0 : Nat → Nat → Nat) 0) 0)) :: (ra, hs_eQ (cy 11) 4 (hs_fk ((fun _ _ => 0 : Nat → Nat → Nat) 3) 0)) :: (hs_sr cy (fun _ _ => 0) 0 ++ ((n7, hs_eH) :: (n6, hs_eH) :: (n5, hs_eI (cy 8) 11) :: Lt))) :=
    List.Perm.cons _ ((List.perm_append_comm_assoc [(n7, hs_eH), (n6, hs_eH), (n5, hs_eI (cy 8) 11)] [(ra, hs_eQ (cy 11) 4 (hs_fk ((fun _ _ => 0 : Nat → Nat → Nat) 0) 0)), (sa, hs_eQ (cy 12) 4 (hs_fk ((fun _ _ => 0 : Nat → Nat → Nat) 0) 0))] Lt).trans (List.Perm.swap _ _ _))
  have hPD := hPD.perm hp
  refine k_X6_loop C n1 n2 sa ra n5 n6 n7 ((n7, hs_eH) :: (n6, hs_eH) :: (n5, hs_eI (cy 8) 11) :: Lt) (fun a H locs ls hPD hS => hfin _ _ _ _ _ ⟨n1, n2, sa, ra, n5, n6, n7, r, pa, ba, a, rfl⟩ (by rw [hLt] at hPD; exact hPD) hS dX6_init_111) 4 0 rfl (fun _ _ => 0) H locs ls hPD hS hl)
set_option maxRecDepth 100000 in
set_option maxHeartbeats 4000000 in
theorem k_X7 : hs_ctor yX7_init cX7_init 1 1 27 319 (fun _ h => [(h, .inr (9, [.int 0, .int 0, .int 0, .int 0, .null, .null, .null, .null, .null, .null, .null, .null, .null, .null, .null, .null, .int 0, .null, .null, .null, .null, .null, .null, .null, .null, .null, .null, .null, .null, .null, .null, .int 0, .null]))]) (fun cy h w1 => ∃ (q0 q1 q2 q3 q4 q5 q6 q7 q8 q9 q10 q11 q12 q13 q14 q15 q16 q17 q18 q19 q20 q21 q22 q23 q24 q25 q26 : Nat), w1 = (h, .inr (9, [.int 0, .int 0, .int 0, .int 0, .ref q0, .ref q1, .ref q2, .ref q3, .ref q4, .ref q5, .ref q6, .ref q7, .ref q8, .ref q9, .ref q10, .ref q11, .int 0, .ref q12, .ref q13, .ref q14, .ref q15, .ref q16, .ref q17, .ref q18, .ref q19, .ref q20, .ref q21, .ref q22, .ref q23, .ref q24, .ref q25, .int 0, .ref q26])) :: [(q26, hs_eI (cy 14) 20), (q25, hs_eI (cy 14) 13), (q24, hs_eI (cy 14) 11), (q23, hs_eI (cy 14) 11), (q22, hs_eI (cy 14) 4), (q21, hs_eI (cy 14) 4), (q20, hs_eI (cy 14) 4), (q19, hs_eI (cy 14) 4), (q18, hs_eI (cy 14) 4), (q17, hs_eI (cy 14) 4), (q16, hs_eI (cy 14) 4), (q15, hs_eI (cy 14) 4), (q14, hs_eI (cy 14) 4), (q13, hs_eI (cy 14) 160), (q12, hs_eI (cy 14) 8), (q11, hs_eI (cy 14) 16), (q10, hs_eI (cy 14) 4), (q9, hs_eI (cy 14) 4), (q8, hs_eI (cy 14) 4), (q7, hs_eI (cy 14) 4), (q6, hs_eI (cy 14) 4), (q5, hs_eI (cy 14) 4), (q4, hs_eI (cy 14) 4), (q3, hs_eI (cy 14) 4), (q2, hs_eI (cy 14) 4), (q1, hs_eI (cy 15) 4), (q0, hs_eI (cy 14) 4)]) := hs_mkC (by decide +kernel) (by decide) (fun p l e s m args below meth c D cy A h0 Q ls C hini hfin hPD hl => by
  have hS : va_S A s.heap s.heap [] := va_S.rf
  refine lv_aload_n C.1 C.2.1 dX7_init_0 rfl (lv_at hl 0 rfl) ?_
  refine hs_objI C wc_54 wc_0 wc_1 hl.1 (by constructor <;> decide) dX7_init_1 ?_
  refine lv_aload_n C.1 C.2.1 dX7_init_4 rfl (lv_at hl 0 rfl) ?_
  refine lv_iconst (v := 4) C.1 C.2.1 dX7_init_5 (by decide) ?_
  refine hs_newI C (ty := .int) (t0 := 5) (cA := cy 14) (N := 4) (a0 := (4, .inl (fun _ => 0))) rfl rfl wc_5 (fun _ => rfl) (fun _ _ h => h) (by decide) (by decide) (by decide) hPD hS (by decide) (by decide) dX7_init_6 (fun q0 H hPD hS => ?_)
  have hPD := hPD.perm (List.Perm.swap _ _ _)
  refine hs_putF C hini (ci := 9) (N := 33) (k := 4) (q0 := 0) rfl hi7 tyX7 tyX7_ok nmX7 (by decide) rfl rfl rfl rfl wc_55 hPD hS rfl dX7_init_8 (fun H locs hPD hS => ?_)
  have hPD : hs_PD D A ((h0, .inr (9, [.int 0, .int 0, .int 0, .int 0, .ref q0, .null, .null, .null, .null, .null, .null, .null, .null, .null, .null, .null, .int 0, .null, .null, .null, .null, .null, .null, .null, .null, .null, .null, .null, .null, .null, .null, .int 0, .null])) :: [(q0, hs_eI (cy 14) 4)]) H := hPD
  refine lv_aload_n C.1 C.2.1 dX7_init_11 rfl (lv_at hl 0 rfl) ?_
  refine lv_iconst (v := 4) C.1 C.2.1 dX7_init_12 (by decide) ?_
  refine hs_newI C (ty := .boolean) (t0 := 6) (cA := cy 15) (N := 4) (a0 := (4, .inl (fun _ => 0))) rfl rfl wc_56 (fun _ => rfl) (fun _ _ h => h) (by decide) (by decide) (by decide) hPD hS (by decide) (by decide) dX7_init_13 (fun q1 H hPD hS => ?_)
  have hPD := hPD.perm (List.Perm.swap _ _ _)
  refine hs_putF C hini (ci := 9) (N := 33) (k := 5) (q0 := 0) rfl hi7 tyX7 tyX7_ok nmX7 (by decide) rfl rfl rfl rfl wc_57 hPD hS rfl dX7_init_15 (fun H locs hPD hS => ?_)
  have hPD : hs_PD D A ((h0, .inr (9, [.int 0, .int 0, .int 0, .int 0, .ref q0, .ref q1, .null, .null, .null, .null, .null, .null, .null, .null, .null, .null, .int 0, .null, .null, .null, .null, .null, .null, .null, .null, .null, .null, .null, .null, .null, .null, .int 0, .null])) :: [(q1, hs_eI (cy 15) 4), (q0, hs_eI (cy 14) 4)]) H := hPD
  refine lv_aload_n C.1 C.2.1 dX7_init_18 rfl (lv_at hl 0 rfl) ?_
  refine lv_iconst (v := 4) C.1 C.2.1 dX7_init_19 (by decide) ?_
  refine hs_newI C (ty := .int) (t0 := 5) (cA := cy 14) (N := 4) (a0 := (4, .inl (fun _ => 0))) rfl rfl wc_5 (fun _ => rfl) (fun _ _ h => h) (by decide) (by decide) (by decide) hPD hS (by decide) (by decide) dX7_init_20 (fun q2 H hPD hS => ?_)
  have hPD := hPD.perm (List.Perm.swap _ _ _)
  refine hs_putF C hini (ci := 9) (N := 33) (k := 6) (q0 := 0) rfl hi7 tyX7 tyX7_ok nmX7 (by decide) rfl rfl rfl rfl wc_58 hPD hS rfl dX7_init_22 (fun H locs hPD hS => ?_)
  have hPD : hs_PD D A ((h0, .inr (9, [.int 0, .int 0, .int 0, .int 0, .ref q0, .ref q1, .ref q2, .null, .null, .null, .null, .null, .null, .null, .null, .null, .int 0, .null, .null, .null, .null, .null, .null, .null, .null, .null, .null, .null, .null, .null, .null, .int 0, .null])) :: [(q2, hs_eI (cy 14) 4), (q1, hs_eI (cy 15) 4), (q0, hs_eI (cy 14) 4)]) H := hPD
  refine lv_aload_n C.1 C.2.1 dX7_init_25 rfl (lv_at hl 0 rfl) ?_
  refine lv_iconst (v := 4) C.1 C.2.1 dX7_init_26 (by decide) ?_
  refine hs_newI C (ty := .int) (t0 := 5) (cA := cy 14) (N := 4) (a0 := (4, .inl (fun _ => 0))) rfl rfl wc_5 (fun _ => rfl) (fun _ _ h => h) (by decide) (by decide) (by decide) hPD hS (by decide) (by decide) dX7_init_27 (fun q3 H hPD hS => ?_)
  have hPD := hPD.perm (List.Perm.swap _ _ _)
  refine hs_putF C hini (ci := 9) (N := 33) (k := 7) (q0 := 0) rfl hi7 tyX7 tyX7_ok nmX7 (by decide) rfl rfl rfl rfl wc_59 hPD hS rfl dX7_init_29 (fun H locs hPD hS => ?_)
  have hPD : hs_PD D A ((h0, .inr (9, [.int 0, .int 0, .int 0, .int 0, .ref q0, .ref q1, .ref q2, .ref q3, .null, .null, .null, .null, .null, .null, .null, .null, .int 0, .null, .null, .null, .null, .null, .null, .null, .null, .null, .null, .null, .null, .null, .null, .int 0, .null])) :: [(q3, hs_eI (cy 14) 4), (q2, hs_eI (cy 14) 4), (q1, hs_eI (cy 15) 4), (q0, hs_eI (cy 14) 4)]) H := hPD
  refine lv_aload_n C.1 C.2.1 dX7_init_32 rfl (lv_at hl 0 rfl) ?_
  refine lv_iconst (v := 4) C.1 C.2.1 dX7_init_33 (by decide) ?_
  refine hs_newI C (ty := .int) (t0 := 5) (cA := cy 14) (N := 4) (a0 := (4, .inl (fun _ => 0))) rfl rfl wc_5 (fun _ => rfl) (fun _ _ h => h) (by decide) (by decide) (by decide) hPD hS (by decide) (by decide) dX7_init_34 (fun q4 H hPD hS => ?_)
  have hPD := hPD.perm (List.Perm.swap _ _ _)
  refine hs_putF C hini (ci := 9) (N := 33) (k := 8) (q0 := 0) rfl hi7 tyX7 tyX7_ok nmX7 (by decide) rfl rfl rfl rfl wc_60 hPD hS rfl dX7_init_36 (fun H locs hPD hS => ?_)
  have hPD : hs_PD D A ((h0, .inr (9, [.int 0, .int 0, .int 0, .int 0, .ref q0, .ref q1, .ref q2, .ref q3, .ref q4, .null, .null, .null, .null, .null, .null, .null, .int 0, .null, .null, .null, .null, .null, .null, .null, .null, .null, .null, .null, .null, .null, .null, .int 0, .null])) :: [(q4, hs_eI (cy 14) 4), (q3, hs_eI (cy 14) 4), (q2, hs_eI (cy 14) 4), (q1, hs_eI (cy 15) 4), (q0, hs_eI (cy 14) 4)]) H := hPD
  refine lv_aload_n C.1 C.2.1 dX7_init_39 rfl (lv_at hl 0 rfl) ?_
  refine lv_iconst (v := 4) C.1 C.2.1 dX7_init_40 (by decide) ?_
  refine hs_newI C (ty := .int) (t0 := 5) (cA := cy 14) (N := 4) (a0 := (4, .inl (fun _ => 0))) rfl rfl wc_5 (fun _ => rfl) (fun _ _ h => h) (by decide) (by decide) (by decide) hPD hS (by decide) (by decide) dX7_init_41 (fun q5 H hPD hS => ?_)
  have hPD := hPD.perm (List.Perm.swap _ _ _)
  refine hs_putF C hini (ci := 9) (N := 33) (k := 9) (q0 := 0) rfl hi7 tyX7 tyX7_ok nmX7 (by decide) rfl rfl rfl rfl wc_61 hPD hS rfl dX7_init_43 (fun H locs hPD hS => ?_)
  have hPD : hs_PD D A ((h0, .inr (9, [.int 0, .int 0, .int 0, .int 0, .ref q0, .ref q1, .ref q2, .ref q3, .ref q4, .ref q5, .null, .null, .null, .null, .null, .null, .int 0, .null, .null, .null, .null, .null, .null, .null, .null, .null, .null, .null, .null, .null, .null, .int 0, .null])) :: [(q5, hs_eI (cy 14) 4), (q4, hs_eI (cy 14) 4), (q3, hs_eI (cy 14) 4), (q2, hs_eI (cy 14) 4), (q1, hs_eI (cy 15) 4), (q0, hs_eI (cy 14) 4)]) H := hPD
  refine lv_aload_n C.1 C.2.1 dX7_init_46 rfl (lv_at hl 0 rfl) ?_
  refine lv_iconst (v := 4) C.1 C.2.1 dX7_init_47 (by decide) ?_
  refine hs_newI C (ty := .int) (t0 := 5) (cA := cy 14) (N := 4) (a0 := (4, .inl (fun _ => 0))) rfl rfl wc_5 (fun _ => rfl) (fun _ _ h => h) (by decide) (by decide) (by decide) hPD hS (by decide) (by decide) dX7_init_48 (fun q6 H hPD hS => ?_)
  have hPD := hPD.perm (List.Perm.swap _ _ _)
  refine hs_putF C hini (ci := 9) (N := 33) (k := 10) (q0 := 0) rfl hi7 tyX7 tyX7_ok nmX7 (by decide) rfl rfl rfl rfl wc_62 hPD hS rfl dX7_init_50 (fun H locs hPD hS => ?_)
  have hPD : hs_PD D A ((h0, .inr (9, [.int 0, .int 0, .int 0, .int 0, .ref q0, .ref q1, .ref q2, .ref q3, .ref q4, .ref q5, .ref q6, .null, .null, .null, .null, .null, .int 0, .null, .null, .null, .null, .null, .null, .null, .null, .null, .null, .null, .null, .null, .null, .int 0, .null])) :: [(q6, hs_eI (cy 14) 4), (q5, hs_eI (cy 14) 4), (q4, hs_eI (cy 14) 4), (q3, hs_eI (cy 14) 4), (q2, hs_eI (cy 14) 4), (q1, hs_eI (cy 15) 4), (q0, hs_eI (cy 14) 4)]) H := hPD
  refine lv_aload_n C.1 C.2.1 dX7_init_53 rfl (lv_at hl 0 rfl) ?_
  refine lv_iconst (v := 4) C.1 C.2.1 dX7_init_54 (by decide) ?_
  refine hs_newI C (ty := .int) (t0 := 5) (cA := cy 14) (N := 4) (a0 := (4, .inl (fun _ => 0))) rfl rfl wc_5 (fun _ => rfl) (fun _ _ h => h) (by decide) (by decide) (by decide) hPD hS (by decide) (by decide) dX7_init_55 (fun q7 H hPD hS => ?_)
  have hPD := hPD.perm (List.Perm.swap _ _ _)
  refine hs_putF C hini (ci := 9) (N := 33) (k := 11) (q0 := 0) rfl hi7 tyX7 tyX7_ok nmX7 (by decide) rfl rfl rfl rfl wc_63 hPD hS rfl dX7_init_57 (fun H locs hPD hS => ?_)
  have hPD : hs_PD D A ((h0, .inr (9, [.int 0, .int 0, .int 0, .int 0, .ref q0, .ref q1, .ref q2, .ref q3, .ref q4, .ref q5, .ref q6, .ref q7, .null, .null, .null, .null, .int 0, .null, .null, .null, .null, .null, .null, .null, .null, .null, .null, .null, .null, .null, .null, .int 0, .null])) :: [(q7, hs_eI (cy 14) 4), (q6, hs_eI (cy 14) 4), (q5, hs_eI (cy 14) 4), (q4, hs_eI (cy 14) 4), (q3, hs_eI (cy 14) 4), (q2, hs_eI (cy 14) 4), (q1, hs_eI (cy 15) 4), (q0, hs_eI (cy 14) 4)]) H := hPD
  refine lv_aload_n C.1 C.2.1 dX7_init_60 rfl (lv_at hl 0 rfl) ?_
  refine lv_iconst (v := 4) C.1 C.2.1 dX7_init_61 (by decide) ?_
  refine hs_newI C (ty := .int) (t0 := 5) (cA := cy 14) (N := 4) (a0 := (4, .inl (fun _ => 0))) rfl rfl wc_5 (fun _ => rfl) (fun _ _ h => h) (by decide) (by decide) (by decide) hPD hS (by decide) (by decide) dX7_init_62 (fun q8 H hPD hS => ?_)
  have hPD := hPD.perm (List.Perm.swap _ _ _)
  refine hs_putF C hini (ci := 9) (N := 33) (k := 12) (q0 := 0) rfl hi7 tyX7 tyX7_ok nmX7 (by decide) rfl rfl rfl rfl wc_64 hPD hS rfl dX7_init_64 (fun H locs hPD hS => ?_)
  have hPD : hs_PD D A ((h0, .inr (9, [.int 0, .int 0, .int 0, .int 0, .ref q0, .ref q1, .ref q2, .ref q3, .ref q4, .ref q5, .ref q6, .ref q7, .ref q8, .null, .null, .null, .int 0, .null, .null, .null, .null, .null, .null, .null, .null, .null, .null, .null, .null, .null, .null, .int 0, .null])) :: [(q8, hs_eI (cy 14) 4), (q7, hs_eI (cy 14) 4), (q6, hs_eI (cy 14) 4), (q5, hs_eI (cy 14) 4), (q4, hs_eI (cy 14) 4), (q3, hs_eI (cy 14) 4), (q2, hs_eI (cy 14) 4), (q1, hs_eI (cy 15) 4), (q0, hs_eI (cy 14) 4)]) H := hPD
  refine lv_aload_n C.1 C.2.1 dX7_init_67 rfl (lv_at hl 0 rfl) ?_
  refine lv_iconst (v := 4) C.1 C.2.1 dX7_init_68 (by decide) ?_
  refine hs_newI C (ty := .int) (t0 := 5) (cA := cy 14) (N := 4) (a0 := (4, .inl (fun _ => 0))) rfl rfl wc_5 (fun _ => rfl) (fun _ _ h => h) (by decide) (by decide) (by decide) hPD hS (by decide) (by decide) dX7_init_69 (fun q9 H hPD hS => ?_)
  have hPD := hPD.perm (List.Perm.swap _ _ _)
  refine hs_putF C hini (ci := 9) (N := 33) (k := 13) (q0 := 0) rfl hi7 tyX7 tyX7_ok nmX7 (by decide) rfl rfl rfl rfl wc_65 hPD hS rfl dX7_init_71 (fun H locs hPD hS => ?_)
  have hPD : hs_PD D A ((h0, .inr (9, [.int 0, .int 0, .int 0, .int 0, .ref q0, .ref q1, .ref q2, .ref q3, .ref q4, .ref q5, .ref q6, .ref q7, .ref q8, .ref q9, .null, .null, .int 0, .null, .null, .null, .null, .null, .null, .null, .null, .null, .null, .null, .null, .null, .null, .int 0, .null])) :: [(q9, hs_eI (cy 14) 4), (q8, hs_eI (cy 14) 4), (q7, hs_eI (cy 14) 4), (q6, hs_eI (cy 14) 4), (q5, hs_eI (cy 14) 4), (q4, hs_eI (cy 14) 4), (q3, hs_eI (cy 14) 4), (q2, hs_eI (cy 14) 4), (q1, hs_eI (cy 15) 4), (q0, hs_eI (cy 14) 4)]) H := hPD
  refine lv_aload_n C.1 C.2.1 dX7_init_74 rfl (lv_at hl 0 rfl) ?_
  refine lv_iconst (v := 4) C.1 C.2.1 dX7_init_75 (by decide) ?_
  refine hs_newI C (ty := .int) (t0 := 5) (cA := cy 14) (N := 4) (a0 := (4, .inl (fun _ => 0))) rfl rfl wc_5 (fun _ => rfl) (fun _ _ h => h) (by decide) (by decide) (by decide) hPD hS (by decide) (by decide) dX7_init_76 (fun q10 H hPD hS => ?_)
  have hPD := hPD.perm (List.Perm.swap _ _ _)
  refine hs_putF C hini (ci := 9) (N := 33) (k := 14) (q0 := 0) rfl hi7 tyX7 tyX7_ok nmX7 (by decide) rfl rfl rfl rfl wc_66 hPD hS rfl dX7_init_78 (fun H locs hPD hS => ?_)
  have hPD : hs_PD D A ((h0, .inr (9, [.int 0, .int 0, .int 0, .int 0, .ref q0, .ref q1, .ref q2, .ref q3, .ref q4, .ref q5, .ref q6, .ref q7, .ref q8, .ref q9, .ref q10, .null, .int 0, .null, .null, .null, .null, .null, .null, .null, .null, .null, .null, .null, .null, .null, .null, .int 0, .null])) :: [(q10, hs_eI (cy 14) 4), (q9, hs_eI (cy 14) 4), (q8, hs_eI (cy 14) 4), (q7, hs_eI (cy 14) 4), (q6, hs_eI (cy 14) 4), (q5, hs_eI (cy 14) 4), (q4, hs_eI (cy 14) 4), (q3, hs_eI (cy 14) 4), (q2, hs_eI (cy 14) 4), (q1, hs_eI (cy 15) 4), (q0, hs_eI (cy 14) 4)]) H := hPD
  refine lv_aload_n C.1 C.2.1 dX7_init_81 rfl (lv_at hl 0 rfl) ?_
  refine lv_bipush (v := 16) C.1 C.2.1 dX7_init_82 (by decide) ?_
  refine hs_newI C (ty := .int) (t0 := 5) (cA := cy 14) (N := 16) (a0 := (16, .inl (fun _ => 0))) rfl rfl wc_5 (fun _ => rfl) (fun _ _ h => h) (by decide) (by decide) (by decide) hPD hS (by decide) (by decide) dX7_init_84 (fun q11 H hPD hS => ?_)
  have hPD := hPD.perm (List.Perm.swap _ _ _)
  refine hs_putF C hini (ci := 9) (N := 33) (k := 15) (q0 := 0) rfl hi7 tyX7 tyX7_ok nmX7 (by decide) rfl rfl rfl rfl wc_67 hPD hS rfl dX7_init_86 (fun H locs hPD hS => ?_)
  have hPD : hs_PD D A ((h0, .inr (9, [.int 0, .int 0, .int 0, .int 0, .ref q0, .ref q1, .ref q2, .ref q3, .ref q4, .ref q5, .ref q6, .ref q7, .ref q8, .ref q9, .ref q10, .ref q11, .int 0, .null, .null, .null, .null, .null, .null, .null, .null, .null, .null, .null, .null, .null, .null, .int 0, .null])) :: [(q11, hs_eI (cy 14) 16), (q10, hs_eI (cy 14) 4), (q9, hs_eI (cy 14) 4), (q8, hs_eI (cy 14) 4), (q7, hs_eI (cy 14) 4), (q6, hs_eI (cy 14) 4), (q5, hs_eI (cy 14) 4), (q4, hs_eI (cy 14) 4), (q3, hs_eI (cy 14) 4), (q2, hs_eI (cy 14) 4), (q1, hs_eI (cy 15) 4), (q0, hs_eI (cy 14) 4)]) H := hPD
  refine lv_aload_n C.1 C.2.1 dX7_init_89 rfl (lv_at hl 0 rfl) ?_
  refine lv_bipush (v := 8) C.1 C.2.1 dX7_init_90 (by decide) ?_
  refine hs_newI C (ty := .int) (t0 := 5) (cA := cy 14) (N := 8) (a0 := (8, .inl (fun _ => 0))) rfl rfl wc_5 (fun _ => rfl) (fun _ _ h => h) (by decide) (by decide) (by decide) hPD hS (by decide) (by decide) dX7_init_92 (fun q12 H hPD hS => ?_)
  have hPD := hPD.perm (List.Perm.swap _ _ _)
  refine hs_putF C hini (ci := 9) (N := 33) (k := 17) (q0 := 0) rfl hi7 tyX7 tyX7_ok nmX7 (by decide) rfl rfl rfl rfl wc_68 hPD hS rfl dX7_init_94 (fun H locs hPD hS => ?_)
  have hPD : hs_PD D A ((h0, .inr (9, [.int 0, .int 0, .int 0, .int 0, .ref q0, .ref q1, .ref q2, .ref q3, .ref q4, .ref q5, .ref q6, .ref q7, .ref q8, .ref q9, .ref q10, .ref q11, .int 0, .ref q12, .null, .null, .null, .null, .null, .null, .null, .null, .null, .null, .null, .null, .null, .int 0, .null])) :: [(q12, hs_eI (cy 14) 8), (q11, hs_eI (cy 14) 16), (q10, hs_eI (cy 14) 4), (q9, hs_eI (cy 14) 4), (q8, hs_eI (cy 14) 4), (q7, hs_eI (cy 14) 4), (q6, hs_eI (cy 14) 4), (q5, hs_eI (cy 14) 4), (q4, hs_eI (cy 14) 4), (q3, hs_eI (cy 14) 4), (q2, hs_eI (cy 14) 4), (q1, hs_eI (cy 15) 4), (q0, hs_eI (cy 14) 4)]) H := hPD
  refine lv_aload_n C.1 C.2.1 dX7_init_97 rfl (lv_at hl 0 rfl) ?_
  refine lv_sipush (v := 160) C.1 C.2.1 dX7_init_98 (by decide) ?_
  refine hs_newI C (ty := .int) (t0 := 5) (cA := cy 14) (N := 160) (a0 := (160, .inl (fun _ => 0))) rfl rfl wc_5 (fun _ => rfl) (fun _ _ h => h) (by decide) (by decide) (by decide) hPD hS (by decide) (by decide) dX7_init_101 (fun q13 H hPD hS => ?_)
  have hPD := hPD.perm (List.Perm.swap _ _ _)
  refine hs_putF C hini (ci := 9) (N := 33) (k := 18) (q0 := 0) rfl hi7 tyX7 tyX7_ok nmX7 (by decide) rfl rfl rfl rfl wc_69 hPD hS rfl dX7_init_103 (fun H locs hPD hS => ?_)
  have hPD : hs_PD D A ((h0, .inr (9, [.int 0, .int 0, .int 0, .int 0, .ref q0, .ref q1, .ref q2, .ref q3, .ref q4, .ref q5, .ref q6, .ref q7, .ref q8, .ref q9, .ref q10, .ref q11, .int 0, .ref q12, .ref q13, .null, .null, .null, .null, .null, .null, .null, .null, .null, .null, .null, .null, .int 0, .null])) :: [(q13, hs_eI (cy 14) 160), (q12, hs_eI (cy 14) 8), (q11, hs_eI (cy 14) 16), (q10, hs_eI (cy 14) 4), (q9, hs_eI (cy 14) 4), (q8, hs_eI (cy 14) 4), (q7, hs_eI (cy 14) 4), (q6, hs_eI (cy 14) 4), (q5, hs_eI (cy 14) 4), (q4, hs_eI (cy 14) 4), (q3, hs_eI (cy 14) 4), (q2, hs_eI (cy 14) 4), (q1, hs_eI (cy 15) 4), (q0, hs_eI (cy 14) 4)]) H := hPD
  refine lv_aload_n C.1 C.2.1 dX7_init_106 rfl (lv_at hl 0 rfl) ?_
  refine lv_iconst (v := 4) C.1 C.2.1 dX7_init_107 (by decide) ?_
  refine hs_newI C (ty := .int) (t0 := 5) (cA := cy 14) (N := 4) (a0 := (4, .inl (fun _ => 0))) rfl rfl wc_5 (fun _ => rfl) (fun _ _ h => h) (by decide) (by decide) (by decide) hPD hS (by decide) (by decide) dX7_init_108 (fun q14 H hPD hS => ?_)
  have hPD := hPD.perm (List.Perm.swap _ _ _)
  refine hs_putF C hini (ci := 9) (N := 33) (k := 19) (q0 := 0) rfl hi7 tyX7 tyX7_ok nmX7 (by decide) rfl rfl rfl rfl wc_70 hPD hS rfl dX7_init_110 (fun H locs hPD hS => ?_)
  have hPD : hs_PD D A ((h0, .inr (9, [.int 0, .int 0, .int 0, .int 0, .ref q0, .ref q1, .ref q2, .ref q3, .ref q4, .ref q5, .ref q6, .ref q7, .ref q8, .ref q9, .ref q10, .ref q11, .int 0, .ref q12, .ref q13, .ref q14, .null, .null, .null, .null, .null, .null, .null, .null, .null, .null, .null, .int 0, .null])) :: [(q14, hs_eI (cy 14) 4), (q13, hs_eI (cy 14) 160), (q12, hs_eI (cy 14) 8), (q11, hs_eI (cy 14) 16), (q10, hs_eI (cy 14) 4), (q9, hs_eI (cy 14) 4), (q8, hs_eI (cy 14) 4), (q7, hs_eI (cy 14) 4), (q6, hs_eI (cy 14) 4), (q5, hs_eI (cy 14) 4), (q4, hs_eI (cy 14) 4), (q3, hs_eI (cy 14) 4), (q2, hs_eI (cy 14) 4), (q1, hs_eI (cy 15) 4), (q0, hs_eI (cy 14) 4)]) H := hPD
  refine lv_aload_n C.1 C.2.1 dX7_init_113 rfl (lv_at hl 0 rfl) ?_
  refine lv_iconst (v := 4) C.1 C.2.1 dX7_init_114 (by decide) ?_
  refine hs_newI C (ty := .int) (t0 := 5) (cA := cy 14) (N := 4) (a0 := (4, .inl (fun _ => 0))) rfl rfl wc_5 (fun _ => rfl) (fun _ _ h => h) (by decide) (by decide) (by decide) hPD hS (by decide) (by decide) dX7_init_115 (fun q15 H hPD hS => ?_)
  have hPD := hPD.perm (List.Perm.swap _ _ _)
  refine hs_putF C hini (ci := 9) (N := 33) (k := 20) (q0 := 0) rfl hi7 tyX7 tyX7_ok nmX7 (by decide) rfl rfl rfl rfl wc_71 hPD hS rfl dX7_init_117 (fun H locs hPD hS => ?_)
  have hPD : hs_PD D A ((h0, .inr (9, [.int 0, .int 0, .int 0, .int 0, .ref q0, .ref q1, .ref q2, .ref q3, .ref q4, .ref q5, .ref q6, .ref q7, .ref q8, .ref q9, .ref q10, .ref q11, .int 0, .ref q12, .ref q13, .ref q14, .ref q15, .null, .null, .null, .null, .null, .null, .null, .null, .null, .null, .int 0, .null])) :: [(q15, hs_eI (cy 14) 4), (q14, hs_eI (cy 14) 4), (q13, hs_eI (cy 14) 160), (q12, hs_eI (cy 14) 8), (q11, hs_eI (cy 14) 16), (q10, hs_eI (cy 14) 4), (q9, hs_eI (cy 14) 4), (q8, hs_eI (cy 14) 4), (q7, hs_eI (cy 14) 4), (q6, hs_eI (cy 14) 4), (q5, hs_eI (cy 14) 4), (q4, hs_eI (cy 14) 4), (q3, hs_eI (cy 14) 4), (q2, hs_eI (cy 14) 4), (q1, hs_eI (cy 15) 4), (q0, hs_eI (cy 14) 4)]) H := hPD
  refine lv_aload_n C.1 C.2.1 dX7_init_120 rfl (lv_at hl 0 rfl) ?_
  refine lv_iconst (v := 4) C.1 C.2.1 dX7_init_121 (by decide) ?_
  refine hs_newI C (ty := .int) (t0 := 5) (cA := cy 14) (N := 4) (a0 := (4, .inl (fun _ => 0))) rfl rfl wc_5 (fun _ => rfl) (fun _ _ h => h) (by decide) (by decide) (by decide) hPD hS (by decide) (by decide) dX7_init_122 (fun q16 H hPD hS => ?_)
  have hPD := hPD.perm (List.Perm.swap _ _ _)
  refine hs_putF C hini (ci := 9) (N := 33) (k := 21) (q0 := 0) rfl hi7 tyX7 tyX7_ok nmX7 (by decide) rfl rfl rfl rfl wc_72 hPD hS rfl dX7_init_124 (fun H locs hPD hS => ?_)
  have hPD : hs_PD D A ((h0, .inr (9, [.int 0, .int 0, .int 0, .int 0, .ref q0, .ref q1, .ref q2, .ref q3, .ref q4, .ref q5, .ref q6, .ref q7, .ref q8, .ref q9, .ref q10, .ref q11, .int 0, .ref q12, .ref q13, .ref q14, .ref q15, .ref q16, .null, .null, .null, .null, .null, .null, .null, .null, .null, .int 0, .null])) :: [(q16, hs_eI (cy 14) 4), (q15, hs_eI (cy 14) 4), (q14, hs_eI (cy 14) 4), (q13, hs_eI (cy 14) 160), (q12, hs_eI (cy 14) 8), (q11, hs_eI (cy 14) 16), (q10, hs_eI (cy 14) 4), (q9, hs_eI (cy 14) 4), (q8, hs_eI (cy 14) 4), (q7, hs_eI (cy 14) 4), (q6, hs_eI (cy 14) 4), (q5, hs_eI (cy 14) 4), (q4, hs_eI (cy 14) 4), (q3, hs_eI (cy 14) 4), (q2, hs_eI (cy 14) 4), (q1, hs_eI (cy 15) 4), (q0, hs_eI (cy 14) 4)]) H := hPD
  refine lv_aload_n C.1 C.2.1 dX7_init_127 rfl (lv_at hl 0 rfl) ?_
  refine lv_iconst (v := 4) C.1 C.2.1 dX7_init_128 (by decide) ?_
  refine hs_newI C (ty := .int) (t0 := 5) (cA := cy 14) (N := 4) (a0 := (4, .inl (fun _ => 0))) rfl rfl wc_5 (fun _ => rfl) (fun _ _ h => h) (by decide) (by decide) (by decide) hPD hS (by decide) (by decide) dX7_init_129 (fun q17 H hPD hS => ?_)
  have hPD := hPD.perm (List.Perm.swap _ _ _)
  refine hs_putF C hini (ci := 9) (N := 33) (k := 22) (q0 := 0) rfl hi7 tyX7 tyX7_ok nmX7 (by decide) rfl rfl rfl rfl wc_73 hPD hS rfl dX7_init_131 (fun H locs hPD hS => ?_)
  have hPD : hs_PD D A ((h0, .inr (9, [.int 0, .int 0, .int 0, .int 0, .ref q0, .ref q1, .ref q2, .ref q3, .ref q4, .ref q5, .ref q6, .ref q7, .ref q8, .ref q9, .ref q10, .ref q11, .int 0, .ref q12, .ref q13, .ref q14, .ref q15, .ref q16, .ref q17, .null, .null, .null, .null, .null, .null, .null, .null, .int 0, .null])) :: [(q17, hs_eI (cy 14) 4), (q16, hs_eI (cy 14) 4), (q15, hs_eI (cy 14) 4), (q14, hs_eI (cy 14) 4), (q13, hs_eI (cy 14) 160), (q12, hs_eI (cy 14) 8), (q11, hs_eI (cy 14) 16), (q10, hs_eI (cy 14) 4), (q9, hs_eI (cy 14) 4), (q8, hs_eI (cy 14) 4), (q7, hs_eI (cy 14) 4), (q6, hs_eI (cy 14) 4), (q5, hs_eI (cy 14) 4), (q4, hs_eI (cy 14) 4), (q3, hs_eI (cy 14) 4), (q2, hs_eI (cy 14) 4), (q1, hs_eI (cy 15) 4), (q0, hs_eI (cy 14) 4)]) H := hPD
  refine lv_aload_n C.1 C.2.1 dX7_init_134 rfl (lv_at hl 0 rfl) ?_
  refine lv_iconst (v := 4) C.1 C.2.1 dX7_init_135 (by decide) ?_
  refine hs_newI C (ty := .int) (t0 := 5) (cA := cy 14) (N := 4) (a0 := (4, .inl (fun _ => 0))) rfl rfl wc_5 (fun _ => rfl) (fun _ _ h => h) (by decide) (by decide) (by decide) hPD hS (by decide) (by decide) dX7_init_136 (fun q18 H hPD hS => ?_)
  have hPD := hPD.perm (List.Perm.swap _ _ _)
  refine hs_putF C hini (ci := 9) (N := 33) (k := 23) (q0 := 0) rfl hi7 tyX7 tyX7_ok nmX7 (by decide) rfl rfl rfl rfl wc_74 hPD hS rfl dX7_init_138 (fun H locs hPD hS => ?_)
  have hPD : hs_PD D A ((h0, .inr (9, [.int 0, .int 0, .int 0, .int 0, .ref q0, .ref q1, .ref q2, .ref q3, .ref q4, .ref q5, .ref q6, .ref q7, .ref q8, .ref q9, .ref q10, .ref q11, .int 0, .ref q12, .ref q13, .ref q14, .ref q15, .ref q16, .ref q17, .ref q18, .null, .null, .null, .null, .null, .null, .null, .int 0, .null])) :: [(q18, hs_eI (cy 14) 4), (q17, hs_eI (cy 14) 4), (q16, hs_eI (cy 14) 4), (q15, hs_eI (cy 14) 4), (q14, hs_eI (cy 14) 4), (q13, hs_eI (cy 14) 160), (q12, hs_eI (cy 14) 8), (q11, hs_eI (cy 14) 16), (q10, hs_eI (cy 14) 4), (q9, hs_eI (cy 14) 4), (q8, hs_eI (cy 14) 4), (q7, hs_eI (cy 14) 4), (q6, hs_eI (cy 14) 4), (q5, hs_eI (cy 14) 4), (q4, hs_eI (cy 14) 4), (q3, hs_eI (cy 14) 4), (q2, hs_eI (cy 14) 4), (q1, hs_eI (cy 15) 4), (q0, hs_eI (cy 14) 4)]) H := hPD
  refine lv_aload_n C.1 C.2.1 dX7_init_141 rfl (lv_at hl 0 rfl) ?_
  refine lv_iconst (v := 4) C.1 C.2.1 dX7_init_142 (by decide) ?_
  refine hs_newI C (ty := .int) (t0 := 5) (cA := cy 14) (N := 4) (a0 := (4, .inl (fun _ => 0))) rfl rfl wc_5 (fun _ => rfl) (fun _ _ h => h) (by decide) (by decide) (by decide) hPD hS (by decide) (by decide) dX7_init_143 (fun q19 H hPD hS => ?_)
  have hPD := hPD.perm (List.Perm.swap _ _ _)
  refine hs_putF C hini (ci := 9) (N := 33) (k := 24) (q0 := 0) rfl hi7 tyX7 tyX7_ok nmX7 (by decide) rfl rfl rfl rfl wc_75 hPD hS rfl dX7_init_145 (fun H locs hPD hS => ?_)
  have hPD : hs_PD D A ((h0, .inr (9, [.int 0, .int 0, .int 0, .int 0, .ref q0, .ref q1, .ref q2, .ref q3, .ref q4, .ref q5, .ref q6, .ref q7, .ref q8, .ref q9, .ref q10, .ref q11, .int 0, .ref q12, .ref q13, .ref q14, .ref q15, .ref q16, .ref q17, .ref q18, .ref q19, .null, .null, .null, .null, .null, .null, .int 0, .null])) :: [(q19, hs_eI (cy 14) 4), (q18, hs_eI (cy 14) 4), (q17, hs_eI (cy 14) 4), (q16, hs_eI (cy 14) 4), (q15, hs_eI (cy 14) 4), (q14, hs_eI (cy 14) 4), (q13, hs_eI (cy 14) 160), (q12, hs_eI (cy 14) 8), (q11, hs_eI (cy 14) 16), (q10, hs_eI (cy 14) 4), (q9, hs_eI (cy 14) 4), (q8, hs_eI (cy 14) 4), (q7, hs_eI (cy 14) 4), (q6, hs_eI (cy 14) 4), (q5, hs_eI (cy 14) 4), (q4, hs_eI (cy 14) 4), (q3, hs_eI (cy 14) 4), (q2, hs_eI (cy 14) 4), (q1, hs_eI (cy 15) 4), (q0, hs_eI (cy 14) 4)]) H := hPD
  refine lv_aload_n C.1 C.2.1 dX7_init_148 rfl (lv_at hl 0 rfl) ?_
  refine lv_iconst (v := 4) C.1 C.2.1 dX7_init_149 (by decide) ?_
  refine hs_newI C (ty := .int) (t0 := 5) (cA := cy 14) (N := 4) (a0 := (4, .inl (fun _ => 0))) rfl rfl wc_5 (fun _ => rfl) (fun _ _ h => h) (by decide) (by decide) (by decide) hPD hS (by decide) (by decide) dX7_init_150 (fun q20 H hPD hS => ?_)
  have hPD := hPD.perm (List.Perm.swap _ _ _)
  refine hs_putF C hini (ci := 9) (N := 33) (k := 25) (q0 := 0) rfl hi7 tyX7 tyX7_ok nmX7 (by decide) rfl rfl rfl rfl wc_76 hPD hS rfl dX7_init_152 (fun H locs hPD hS => ?_)
  have hPD : hs_PD D A ((h0, .inr (9, [.int 0, .int 0, .int 0, .int 0, .ref q0, .ref q1, .ref q2, .ref q3, .ref q4, .ref q5, .ref q6, .ref q7, .ref q8, .ref q9, .ref q10, .ref q11, .int 0, .ref q12, .ref q13, .ref q14, .ref q15, .ref q16, .ref q17, .ref q18, .ref q19, .ref q20, .null, .null, .null, .null, .null, .int 0, .null])) :: [(q20, hs_eI (cy 14) 4), (q19, hs_eI (cy 14) 4), (q18, hs_eI (cy 14) 4), (q17, hs_eI (cy 14) 4), (q16, hs_eI (cy 14) 4), (q15, hs_eI (cy 14) 4), (q14, hs_eI (cy 14) 4), (q13, hs_eI (cy 14) 160), (q12, hs_eI (cy 14) 8), (q11, hs_eI (cy 14) 16), (q10, hs_eI (cy 14) 4), (q9, hs_eI (cy 14) 4), (q8, hs_eI (cy 14) 4), (q7, hs_eI (cy 14) 4), (q6, hs_eI (cy 14) 4), (q5, hs_eI (cy 14) 4), (q4, hs_eI (cy 14) 4), (q3, hs_eI (cy 14) 4), (q2, hs_eI (cy 14) 4), (q1, hs_eI (cy 15) 4), (q0, hs_eI (cy 14) 4)]) H := hPD
  refine lv_aload_n C.1 C.2.1 dX7_init_155 rfl (lv_at hl 0 rfl) ?_
  refine lv_iconst (v := 4) C.1 C.2.1 dX7_init_156 (by decide) ?_
  refine hs_newI C (ty := .int) (t0 := 5) (cA := cy 14) (N := 4) (a0 := (4, .inl (fun _ => 0))) rfl rfl wc_5 (fun _ => rfl) (fun _ _ h => h) (by decide) (by decide) (by decide) hPD hS (by decide) (by decide) dX7_init_157 (fun q21 H hPD hS => ?_)
  have hPD := hPD.perm (List.Perm.swap _ _ _)
  refine hs_putF C hini (ci := 9) (N := 33) (k := 26) (q0 := 0) rfl hi7 tyX7 tyX7_ok nmX7 (by decide) rfl rfl rfl rfl wc_77 hPD hS rfl dX7_init_159 (fun H locs hPD hS => ?_)
  have hPD : hs_PD D A ((h0, .inr (9, [.int 0, .int 0, .int 0, .int 0, .ref q0, .ref q1, .ref q2, .ref q3, .ref q4, .ref q5, .ref q6, .ref q7, .ref q8, .ref q9, .ref q10, .ref q11, .int 0, .ref q12, .ref q13, .ref q14, .ref q15, .ref q16, .ref q17, .ref q18, .ref q19, .ref q20, .ref q21, .null, .null, .null, .null, .int 0, .null])) :: [(q21, hs_eI (cy 14) 4), (q20, hs_eI (cy 14) 4), (q19, hs_eI (cy 14) 4), (q18, hs_eI (cy 14) 4), (q17, hs_eI (cy 14) 4), (q16, hs_eI (cy 14) 4), (q15, hs_eI (cy 14) 4), (q14, hs_eI (cy 14) 4), (q13, hs_eI (cy 14) 160), (q12, hs_eI (cy 14) 8), (q11, hs_eI (cy 14) 16), (q10, hs_eI (cy 14) 4), (q9, hs_eI (cy 14) 4), (q8, hs_eI (cy 14) 4), (q7, hs_eI (cy 14) 4), (q6, hs_eI (cy 14) 4), (q5, hs_eI (cy 14) 4), (q4, hs_eI (cy 14) 4), (q3, hs_eI (cy 14) 4), (q2, hs_eI (cy 14) 4), (q1, hs_eI (cy 15) 4), (q0, hs_eI (cy 14) 4)]) H := hPD
  refine lv_aload_n C.1 C.2.1 dX7_init_162 rfl (lv_at hl 0 rfl) ?_
  refine lv_iconst (v := 4) C.1 C.2.1 dX7_init_163 (by decide) ?_
  refine hs_newI C (ty := .int) (t0 := 5) (cA := cy 14) (N := 4) (a0 := (4, .inl (fun _ => 0))) rfl rfl wc_5 (fun _ => rfl) (fun _ _ h => h) (by decide) (by decide) (by decide) hPD hS (by decide) (by decide) dX7_init_164 (fun q22 H hPD hS => ?_)
  have hPD := hPD.perm (List.Perm.swap _ _ _)
  refine hs_putF C hini (ci := 9) (N := 33) (k := 27) (q0 := 0) rfl hi7 tyX7 tyX7_ok nmX7 (by decide) rfl rfl rfl rfl wc_78 hPD hS rfl dX7_init_166 (fun H locs hPD hS => ?_)
  have hPD : hs_PD D A ((h0, .inr (9, [.int 0, .int 0, .int 0, .int 0, .ref q0, .ref q1, .ref q2, .ref q3, .ref q4, .ref q5, .ref q6, .ref q7, .ref q8, .ref q9, .ref q10, .ref q11, .int 0, .ref q12, .ref q13, .ref q14, .ref q15, .ref q16, .ref q17, .ref q18, .ref q19, .ref q20, .ref q21, .ref q22, .null, .null, .null, .int 0, .null])) :: [(q22, hs_eI (cy 14) 4), (q21, hs_eI (cy 14) 4), (q20, hs_eI (cy 14) 4), (q19, hs_eI (cy 14) 4), (q18, hs_eI (cy 14) 4), (q17, hs_eI (cy 14) 4), (q16, hs_eI (cy 14) 4), (q15, hs_eI (cy 14) 4), (q14, hs_eI (cy 14) 4), (q13, hs_eI (cy 14) 160), (q12, hs_eI (cy 14) 8), (q11, hs_eI (cy 14) 16), (q10, hs_eI (cy 14) 4), (q9, hs_eI (cy 14) 4), (q8, hs_eI (cy 14) 4), (q7, hs_eI (cy 14) 4), (q6, hs_eI (cy 14) 4), (q5, hs_eI (cy 14) 4), (q4, hs_eI (cy 14) 4), (q3, hs_eI (cy 14) 4), (q2, hs_eI (cy 14) 4), (q1, hs_eI (cy 15) 4), (q0, hs_eI (cy 14) 4)]) H := hPD
  refine lv_aload_n C.1 C.2.1 dX7_init_169 rfl (lv_at hl 0 rfl) ?_
  refine lv_bipush (v := 11) C.1 C.2.1 dX7_init_170 (by decide) ?_
  refine hs_newI C (ty := .int) (t0 := 5) (cA := cy 14) (N := 11) (a0 := (11, .inl (fun _ => 0))) rfl rfl wc_5 (fun _ => rfl) (fun _ _ h => h) (by decide) (by decide) (by decide) hPD hS (by decide) (by decide) dX7_init_172 (fun q23 H hPD hS => ?_)
  have hPD := hPD.perm (List.Perm.swap _ _ _)
  refine hs_putF C hini (ci := 9) (N := 33) (k := 28) (q0 := 0) rfl hi7 tyX7 tyX7_ok nmX7 (by decide) rfl rfl rfl rfl wc_79 hPD hS rfl dX7_init_174 (fun H locs hPD hS => ?_)
  have hPD : hs_PD D A ((h0, .inr (9, [.int 0, .int 0, .int 0, .int 0, .ref q0, .ref q1, .ref q2, .ref q3, .ref q4, .ref q5, .ref q6, .ref q7, .ref q8, .ref q9, .ref q10, .ref q11, .int 0, .ref q12, .ref q13, .ref q14, .ref q15, .ref q16, .ref q17, .ref q18, .ref q19, .ref q20, .ref q21, .ref q22, .ref q23, .null, .null, .int 0, .null])) :: [(q23, hs_eI (cy 14) 11), (q22, hs_eI (cy 14) 4), (q21, hs_eI (cy 14) 4), (q20, hs_eI (cy 14) 4), (q19, hs_eI (cy 14) 4), (q18, hs_eI (cy 14) 4), (q17, hs_eI (cy 14) 4), (q16, hs_eI (cy 14) 4), (q15, hs_eI (cy 14) 4), (q14, hs_eI (cy 14) 4), (q13, hs_eI (cy 14) 160), (q12, hs_eI (cy 14) 8), (q11, hs_eI (cy 14) 16), (q10, hs_eI (cy 14) 4), (q9, hs_eI (cy 14) 4), (q8, hs_eI (cy 14) 4), (q7, hs_eI (cy 14) 4), (q6, hs_eI (cy 14) 4), (q5, hs_eI (cy 14) 4), (q4, hs_eI (cy 14) 4), (q3, hs_eI (cy 14) 4), (q2, hs_eI (cy 14) 4), (q1, hs_eI (cy 15) 4), (q0, hs_eI (cy 14) 4)]) H := hPD
  refine lv_aload_n C.1 C.2.1 dX7_init_177 rfl (lv_at hl 0 rfl) ?_
  refine lv_bipush (v := 11) C.1 C.2.1 dX7_init_178 (by decide) ?_
  refine hs_newI C (ty := .int) (t0 := 5) (cA := cy 14) (N := 11) (a0 := (11, .inl (fun _ => 0))) rfl rfl wc_5 (fun _ => rfl) (fun _ _ h => h) (by decide) (by decide) (by decide) hPD hS (by decide) (by decide) dX7_init_180 (fun q24 H hPD hS => ?_)
  have hPD := hPD.perm (List.Perm.swap _ _ _)
  refine hs_putF C hini (ci := 9) (N := 33) (k := 29) (q0 := 0) rfl hi7 tyX7 tyX7_ok nmX7 (by decide) rfl rfl rfl rfl wc_80 hPD hS rfl dX7_init_182 (fun H locs hPD hS => ?_)
  have hPD : hs_PD D A ((h0, .inr (9, [.int 0, .int 0, .int 0, .int 0, .ref q0, .ref q1, .ref q2, .ref q3, .ref q4, .ref q5, .ref q6, .ref q7, .ref q8, .ref q9, .ref q10, .ref q11, .int 0, .ref q12, .ref q13, .ref q14, .ref q15, .ref q16, .ref q17, .ref q18, .ref q19, .ref q20, .ref q21, .ref q22, .ref q23, .ref q24, .null, .int 0, .null])) :: [(q24, hs_eI (cy 14) 11), (q23, hs_eI (cy 14) 11), (q22, hs_eI (cy 14) 4), (q21, hs_eI (cy 14) 4), (q20, hs_eI (cy 14) 4), (q19, hs_eI (cy 14) 4), (q18, hs_eI (cy 14) 4), (q17, hs_eI (cy 14) 4), (q16, hs_eI (cy 14) 4), (q15, hs_eI (cy 14) 4), (q14, hs_eI (cy 14) 4), (q13, hs_eI (cy 14) 160), (q12, hs_eI (cy 14) 8), (q11, hs_eI (cy 14) 16), (q10, hs_eI (cy 14) 4), (q9, hs_eI (cy 14) 4), (q8, hs_eI (cy 14) 4), (q7, hs_eI (cy 14) 4), (q6, hs_eI (cy 14) 4), (q5, hs_eI (cy 14) 4), (q4, hs_eI (cy 14) 4), (q3, hs_eI (cy 14) 4), (q2, hs_eI (cy 14) 4), (q1, hs_eI (cy 15) 4), (q0, hs_eI (cy 14) 4)]) H := hPD
  refine lv_aload_n C.1 C.2.1 dX7_init_185 rfl (lv_at hl 0 rfl) ?_
  refine lv_bipush (v := 13) C.1 C.2.1 dX7_init_186 (by decide) ?_
  refine hs_newI C (ty := .int) (t0 := 5) (cA := cy 14) (N := 13) (a0 := (13, .inl (fun _ => 0))) rfl rfl wc_5 (fun _ => rfl) (fun _ _ h => h) (by decide) (by decide) (by decide) hPD hS (by decide) (by decide) dX7_init_188 (fun q25 H hPD hS => ?_)
  have hPD := hPD.perm (List.Perm.swap _ _ _)
  refine hs_putF C hini (ci := 9) (N := 33) (k := 30) (q0 := 0) rfl hi7 tyX7 tyX7_ok nmX7 (by decide) rfl rfl rfl rfl wc_81 hPD hS rfl dX7_init_190 (fun H locs hPD hS => ?_)
  have hPD : hs_PD D A ((h0, .inr (9, [.int 0, .int 0, .int 0, .int 0, .ref q0, .ref q1, .ref q2, .ref q3, .ref q4, .ref q5, .ref q6, .ref q7, .ref q8, .ref q9, .ref q10, .ref q11, .int 0, .ref q12, .ref q13, .ref q14, .ref q15, .ref q16, .ref q17, .ref q18, .ref q19, .ref q20, .ref q21, .ref q22, .ref q23, .ref q24, .ref q25, .int 0, .null])) :: [(q25, hs_eI (cy 14) 13), (q24, hs_eI (cy 14) 11), (q23, hs_eI (cy 14) 11), (q22, hs_eI (cy 14) 4), (q21, hs_eI (cy 14) 4), (q20, hs_eI (cy 14) 4), (q19, hs_eI (cy 14) 4), (q18, hs_eI (cy 14) 4), (q17, hs_eI (cy 14) 4), (q16, hs_eI (cy 14) 4), (q15, hs_eI (cy 14) 4), (q14, hs_eI (cy 14) 4), (q13, hs_eI (cy 14) 160), (q12, hs_eI (cy 14) 8), (q11, hs_eI (cy 14) 16), (q10, hs_eI (cy 14) 4), (q9, hs_eI (cy 14) 4), (q8, hs_eI (cy 14) 4), (q7, hs_eI (cy 14) 4), (q6, hs_eI (cy 14) 4), (q5, hs_eI (cy 14) 4), (q4, hs_eI (cy 14) 4), (q3, hs_eI (cy 14) 4), (q2, hs_eI (cy 14) 4), (q1, hs_eI (cy 15) 4), (q0, hs_eI (cy 14) 4)]) H := hPD
  refine lv_aload_n C.1 C.2.1 dX7_init_193 rfl (lv_at hl 0 rfl) ?_
  refine lv_bipush (v := 20) C.1 C.2.1 dX7_init_194 (by decide) ?_
  refine hs_newI C (ty := .int) (t0 := 5) (cA := cy 14) (N := 20) (a0 := (20, .inl (fun _ => 0))) rfl rfl wc_5 (fun _ => rfl) (fun _ _ h => h) (by decide) (by decide) (by decide) hPD hS (by decide) (by decide) dX7_init_196 (fun q26 H hPD hS => ?_)
  have hPD := hPD.perm (List.Perm.swap _ _ _)
  refine hs_putF C hini (ci := 9) (N := 33) (k := 32) (q0 := 0) rfl hi7 tyX7 tyX7_ok nmX7 (by decide) rfl rfl rfl rfl wc_82 hPD hS rfl dX7_init_198 (fun H locs hPD hS => ?_)
  have hPD : hs_PD D A ((h0, .inr (9, [.int 0, .int 0, .int 0, .int 0, .ref q0, .ref q1, .ref q2, .ref q3, .ref q4, .ref q5, .ref q6, .ref q7, .ref q8, .ref q9, .ref q10, .ref q11, .int 0, .ref q12, .ref q13, .ref q14, .ref q15, .ref q16, .ref q17, .ref q18, .ref q19, .ref q20, .ref q21, .ref q22, .ref q23, .ref q24, .ref q25, .int 0, .ref q26])) :: [(q26, hs_eI (cy 14) 20), (q25, hs_eI (cy 14) 13), (q24, hs_eI (cy 14) 11), (q23, hs_eI (cy 14) 11), (q22, hs_eI (cy 14) 4), (q21, hs_eI (cy 14) 4), (q20, hs_eI (cy 14) 4), (q19, hs_eI (cy 14) 4), (q18, hs_eI (cy 14) 4), (q17, hs_eI (cy 14) 4), (q16, hs_eI (cy 14) 4), (q15, hs_eI (cy 14) 4), (q14, hs_eI (cy 14) 4), (q13, hs_eI (cy 14) 160), (q12, hs_eI (cy 14) 8), (q11, hs_eI (cy 14) 16), (q10, hs_eI (cy 14) 4), (q9, hs_eI (cy 14) 4), (q8, hs_eI (cy 14) 4), (q7, hs_eI (cy 14) 4), (q6, hs_eI (cy 14) 4), (q5, hs_eI (cy 14) 4), (q4, hs_eI (cy 14) 4), (q3, hs_eI (cy 14) 4), (q2, hs_eI (cy 14) 4), (q1, hs_eI (cy 15) 4), (q0, hs_eI (cy 14) 4)]) H := hPD
  exact hfin _ _ _ _ _ ⟨q0, q1, q2, q3, q4, q5, q6, q7, q8, q9, q10, q11, q12, q13, q14, q15, q16, q17, q18, q19, q20, q21, q22, q23, q24, q25, q26, rfl⟩ hPD hS dX7_init_201)
