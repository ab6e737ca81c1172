theorem qX0_init_0 : DI cX0_init 0 (.aload_n 0) 1 1 := ⟨by decide +kernel, rfl⟩
theorem qX0_init_1 : DI cX0_init 1 (.invokespecial 3) 3 4 := ⟨by decide +kernel, rfl⟩
theorem qX0_init_4 : DI cX0_init 4 (.aload_n 0) 1 5 := ⟨by decide +kernel, rfl⟩
theorem qX0_init_5 : DI cX0_init 5 (.bipush 20) 2 7 := ⟨by decide +kernel, rfl⟩
theorem qX0_init_7 : DI cX0_init 7 (.newarray .int) 2 9 := ⟨by decide +kernel, rfl⟩
theorem qX0_init_9 : DI cX0_init 9 (.putfield 11) 3 12 := ⟨by decide +kernel, rfl⟩
theorem qX0_init_12 : DI cX0_init 12 (.return_) 1 13 := ⟨by decide +kernel, rfl⟩
theorem qX1_init_0 : DI cX1_init 0 (.aload_n 0) 1 1 := ⟨by decide +kernel, rfl⟩
theorem qX1_init_1 : DI cX1_init 1 (.invokespecial 3) 3 4 := ⟨by decide +kernel, rfl⟩
theorem qX1_init_4 : DI cX1_init 4 (.aload_n 0) 1 5 := ⟨by decide +kernel, rfl⟩
theorem qX1_init_5 : DI cX1_init 5 (.iconst 5) 1 6 := ⟨by decide +kernel, rfl⟩
theorem qX1_init_6 : DI cX1_init 6 (.newarray .int) 2 8 := ⟨by decide +kernel, rfl⟩
theorem qX1_init_8 : DI cX1_init 8 (.putfield 11) 3 11 := ⟨by decide +kernel, rfl⟩
theorem qX1_init_11 : DI cX1_init 11 (.aload_n 0) 1 12 := ⟨by decide +kernel, rfl⟩
theorem qX1_init_12 : DI cX1_init 12 (.iconst 5) 1 13 := ⟨by decide +kernel, rfl⟩
theorem qX1_init_13 : DI cX1_init 13 (.newarray .int) 2 15 := ⟨by decide +kernel, rfl⟩
theorem qX1_init_15 : DI cX1_init 15 (.putfield 15) 3 18 := ⟨by decide +kernel, rfl⟩
theorem qX1_init_18 : DI cX1_init 18 (.aload_n 0) 1 19 := ⟨by decide +kernel, rfl⟩
theorem qX1_init_19 : DI cX1_init 19 (.iconst 5) 1 20 := ⟨by decide +kernel, rfl⟩
theorem qX1_init_20 : DI cX1_init 20 (.newarray .int) 2 22 := ⟨by decide +kernel, rfl⟩
theorem qX1_init_22 : DI cX1_init 22 (.putfield 18) 3 25 := ⟨by decide +kernel, rfl⟩
theorem qX1_init_25 : DI cX1_init 25 (.aload_n 0) 1 26 := ⟨by decide +kernel, rfl⟩
theorem qX1_init_26 : DI cX1_init 26 (.bipush 10) 2 28 := ⟨by decide +kernel, rfl⟩
theorem qX1_init_28 : DI cX1_init 28 (.newarray .int) 2 30 := ⟨by decide +kernel, rfl⟩
theorem qX1_init_30 : DI cX1_init 30 (.putfield 21) 3 33 := ⟨by decide +kernel, rfl⟩
theorem qX1_init_33 : DI cX1_init 33 (.aload_n 0) 1 34 := ⟨by decide +kernel, rfl⟩
theorem qX1_init_34 : DI cX1_init 34 (.bipush 8) 2 36 := ⟨by decide +kernel, rfl⟩
theorem qX1_init_36 : DI cX1_init 36 (.newarray .int) 2 38 := ⟨by decide +kernel, rfl⟩
theorem qX1_init_38 : DI cX1_init 38 (.putfield 24) 3 41 := ⟨by decide +kernel, rfl⟩
theorem qX1_init_41 : DI cX1_init 41 (.aload_n 0) 1 42 := ⟨by decide +kernel, rfl⟩
theorem qX1_init_42 : DI cX1_init 42 (.bipush 8) 2 44 := ⟨by decide +kernel, rfl⟩
theorem qX1_init_44 : DI cX1_init 44 (.newarray .int) 2 46 := ⟨by decide +kernel, rfl⟩
theorem qX1_init_46 : DI cX1_init 46 (.putfield 27) 3 49 := ⟨by decide +kernel, rfl⟩
theorem qX1_init_49 : DI cX1_init 49 (.return_) 1 50 := ⟨by decide +kernel, rfl⟩
theorem qX2_init_0 : DI cX2_init 0 (.aload_n 0) 1 1 := ⟨by decide +kernel, rfl⟩
theorem qX2_init_1 : DI cX2_init 1 (.invokespecial 3) 3 4 := ⟨by decide +kernel, rfl⟩
theorem qX2_init_4 : DI cX2_init 4 (.aload_n 0) 1 5 := ⟨by decide +kernel, rfl⟩
theorem qX2_init_5 : DI cX2_init 5 (.bipush 6) 2 7 := ⟨by decide +kernel, rfl⟩
theorem qX2_init_7 : DI cX2_init 7 (.newarray .int) 2 9 := ⟨by decide +kernel, rfl⟩
theorem qX2_init_9 : DI cX2_init 9 (.putfield 9) 3 12 := ⟨by decide +kernel, rfl⟩
theorem qX2_init_12 : DI cX2_init 12 (.aload_n 0) 1 13 := ⟨by decide +kernel, rfl⟩
theorem qX2_init_13 : DI cX2_init 13 (.bipush 6) 2 15 := ⟨by decide +kernel, rfl⟩
theorem qX2_init_15 : DI cX2_init 15 (.newarray .int) 2 17 := ⟨by decide +kernel, rfl⟩
theorem qX2_init_17 : DI cX2_init 17 (.putfield 15) 3 20 := ⟨by decide +kernel, rfl⟩
theorem qX2_init_20 : DI cX2_init 20 (.aload_n 0) 1 21 := ⟨by decide +kernel, rfl⟩
theorem qX2_init_21 : DI cX2_init 21 (.bipush 6) 2 23 := ⟨by decide +kernel, rfl⟩
theorem qX2_init_23 : DI cX2_init 23 (.newarray .int) 2 25 := ⟨by decide +kernel, rfl⟩
theorem qX2_init_25 : DI cX2_init 25 (.putfield 18) 3 28 := ⟨by decide +kernel, rfl⟩
theorem qX2_init_28 : DI cX2_init 28 (.aload_n 0) 1 29 := ⟨by decide +kernel, rfl⟩
theorem qX2_init_29 : DI cX2_init 29 (.bipush 48) 2 31 := ⟨by decide +kernel, rfl⟩
theorem qX2_init_31 : DI cX2_init 31 (.newarray .int) 2 33 := ⟨by decide +kernel, rfl⟩
theorem qX2_init_33 : DI cX2_init 33 (.putfield 21) 3 36 := ⟨by decide +kernel, rfl⟩
theorem qX2_init_36 : DI cX2_init 36 (.aload_n 0) 1 37 := ⟨by decide +kernel, rfl⟩
theorem qX2_init_37 : DI cX2_init 37 (.bipush 24) 2 39 := ⟨by decide +kernel, rfl⟩
theorem qX2_init_39 : DI cX2_init 39 (.newarray .int) 2 41 := ⟨by decide +kernel, rfl⟩
theorem qX2_init_41 : DI cX2_init 41 (.putfield 24) 3 44 := ⟨by decide +kernel, rfl⟩
theorem qX2_init_44 : DI cX2_init 44 (.aload_n 0) 1 45 := ⟨by decide +kernel, rfl⟩
theorem qX2_init_45 : DI cX2_init 45 (.bipush 6) 2 47 := ⟨by decide +kernel, rfl⟩
theorem qX2_init_47 : DI cX2_init 47 (.newarray .int) 2 49 := ⟨by decide +kernel, rfl⟩
theorem qX2_init_49 : DI cX2_init 49 (.putfield 27) 3 52 := ⟨by decide +kernel, rfl⟩
theorem qX2_init_52 : DI cX2_init 52 (.aload_n 0) 1 53 := ⟨by decide +kernel, rfl⟩
theorem qX2_init_53 : DI cX2_init 53 (.aload_n 1) 1 54 := ⟨by decide +kernel, rfl⟩
theorem qX2_init_54 : DI cX2_init 54 (.putfield 30) 3 57 := ⟨by decide +kernel, rfl⟩
theorem qX2_init_57 : DI cX2_init 57 (.return_) 1 58 := ⟨by decide +kernel, rfl⟩
theorem qX3_init_0 : DI cX3_init 0 (.aload_n 0) 1 1 := ⟨by decide +kernel, rfl⟩
theorem qX3_init_1 : DI cX3_init 1 (.invokespecial 3) 3 4 := ⟨by decide +kernel, rfl⟩
theorem qX3_init_4 : DI cX3_init 4 (.aload_n 0) 1 5 := ⟨by decide +kernel, rfl⟩
theorem qX3_init_5 : DI cX3_init 5 (.bipush 24) 2 7 := ⟨by decide +kernel, rfl⟩
theorem qX3_init_7 : DI cX3_init 7 (.putfield 11) 3 10 := ⟨by decide +kernel, rfl⟩
theorem qX3_init_10 : DI cX3_init 10 (.aload_n 0) 1 11 := ⟨by decide +kernel, rfl⟩
theorem qX3_init_11 : DI cX3_init 11 (.bipush 10) 2 13 := ⟨by decide +kernel, rfl⟩
theorem qX3_init_13 : DI cX3_init 13 (.newarray .int) 2 15 := ⟨by decide +kernel, rfl⟩
theorem qX3_init_15 : DI cX3_init 15 (.putfield 15) 3 18 := ⟨by decide +kernel, rfl⟩
theorem qX3_init_18 : DI cX3_init 18 (.aload_n 0) 1 19 := ⟨by decide +kernel, rfl⟩
theorem qX3_init_19 : DI cX3_init 19 (.bipush 10) 2 21 := ⟨by decide +kernel, rfl⟩
theorem qX3_init_21 : DI cX3_init 21 (.newarray .int) 2 23 := ⟨by decide +kernel, rfl⟩
theorem qX3_init_23 : DI cX3_init 23 (.putfield 19) 3 26 := ⟨by decide +kernel, rfl⟩
theorem qX3_init_26 : DI cX3_init 26 (.aload_n 0) 1 27 := ⟨by decide +kernel, rfl⟩
theorem qX3_init_27 : DI cX3_init 27 (.bipush 100) 2 29 := ⟨by decide +kernel, rfl⟩
theorem qX3_init_29 : DI cX3_init 29 (.newarray .int) 2 31 := ⟨by decide +kernel, rfl⟩
theorem qX3_init_31 : DI cX3_init 31 (.putfield 24) 3 34 := ⟨by decide +kernel, rfl⟩
theorem qX3_init_34 : DI cX3_init 34 (.return_) 1 35 := ⟨by decide +kernel, rfl⟩
theorem qX4_init_0 : DI cX4_init 0 (.aload_n 0) 1 1 := ⟨by decide +kernel, rfl⟩
theorem qX4_init_1 : DI cX4_init 1 (.invokespecial 3) 3 4 := ⟨by decide +kernel, rfl⟩
theorem qX4_init_4 : DI cX4_init 4 (.aload_n 0) 1 5 := ⟨by decide +kernel, rfl⟩
theorem qX4_init_5 : DI cX4_init 5 (.bipush 100) 2 7 := ⟨by decide +kernel, rfl⟩
theorem qX4_init_7 : DI cX4_init 7 (.newarray .char) 2 9 := ⟨by decide +kernel, rfl⟩
theorem qX4_init_9 : DI cX4_init 9 (.putfield 11) 3 12 := ⟨by decide +kernel, rfl⟩
theorem qX4_init_12 : DI cX4_init 12 (.return_) 1 13 := ⟨by decide +kernel, rfl⟩
theorem qX5_init_0 : DI cX5_init 0 (.aload_n 0) 1 1 := ⟨by decide +kernel, rfl⟩
theorem qX5_init_1 : DI cX5_init 1 (.invokespecial 1) 3 4 := ⟨by decide +kernel, rfl⟩
theorem qX5_init_4 : DI cX5_init 4 (.aload_n 0) 1 5 := ⟨by decide +kernel, rfl⟩
theorem qX5_init_5 : DI cX5_init 5 (.iconst (-1)) 1 6 := ⟨by decide +kernel, rfl⟩
theorem qX5_init_6 : DI cX5_init 6 (.putfield 9) 3 9 := ⟨by decide +kernel, rfl⟩
theorem qX5_init_9 : DI cX5_init 9 (.aload_n 0) 1 10 := ⟨by decide +kernel, rfl⟩
theorem qX5_init_10 : DI cX5_init 10 (.bipush 60) 2 12 := ⟨by decide +kernel, rfl⟩
theorem qX5_init_12 : DI cX5_init 12 (.newarray .long) 2 14 := ⟨by decide +kernel, rfl⟩
theorem qX5_init_14 : DI cX5_init 14 (.putfield 13) 3 17 := ⟨by decide +kernel, rfl⟩
theorem qX5_init_17 : DI cX5_init 17 (.return_) 1 18 := ⟨by decide +kernel, rfl⟩
theorem wA_int : Cond.arrayClass (newarray.typeOf .int) ∈ Gs := (Gs_of (tb_1 (i := 57) (by decide +kernel)) rfl)
theorem wA_char : Cond.arrayClass (newarray.typeOf .char) ∈ Gs := (Gs_of (tb_1 (i := 158) (by decide +kernel)) rfl)
theorem wA_long : Cond.arrayClass (newarray.typeOf .long) ∈ Gs := (Gs_of (tb_1 (i := 203) (by decide +kernel)) rfl)
theorem wA_boolean : Cond.arrayClass (newarray.typeOf .boolean) ∈ Gs := (Gs_of (tb_5 (i := 35) (by decide +kernel)) rfl)
theorem wO_1 : Cond.instanceMethod objectInit ∈ Gs := (Gs_of (tb_1 (i := 23) (by decide +kernel)) rfl)
theorem wO_2 : Cond.code objectInit ⟨#[0xb1]⟩ 1 none ∈ Gs := (Gs_of (tb_1 (i := 24) rfl) rfl)
theorem wI_0 : Cond.instantiable RX0 5 ∈ Gs := (Gs_of (tb_1 (i := 160) (by decide +kernel)) rfl)
theorem wJ_0 : Cond.initialized RX0 ∈ Gs := (Gs_of (tb_1 (i := 6) (by decide +kernel)) rfl)
theorem wV_0 : Cond.instanceMethod yX0_init ∈ Gs := (Gs_of (tb_1 (i := 162) (by decide +kernel)) rfl)
def dfX0 : List Value := [.int 0, .null, .int 0, .int 0, .int 0]
theorem df_0 : ∀ j, j < 5 → defaultValue (tyX0 j) = vp_V dfX0 j := fun j hj => match j, hj with
  | 0, _ => rfl
  | 1, _ => rfl
  | 2, _ => rfl
  | 3, _ => rfl
  | 4, _ => rfl
  | n + 5, h => absurd h (by omega)
theorem wI_1 : Cond.instantiable RX1 9 ∈ Gs := (Gs_of (tb_1 (i := 103) (by decide +kernel)) rfl)
theorem wJ_1 : Cond.initialized RX1 ∈ Gs := (Gs_of (tb_1 (i := 4) (by decide +kernel)) rfl)
theorem wV_1 : Cond.instanceMethod yX1_init ∈ Gs := (Gs_of (tb_1 (i := 105) (by decide +kernel)) rfl)
def dfX1 : List Value := [.int 0, .null, .null, .null, .int 0, .null, .int 0, .null, .null]
theorem df_1 : ∀ j, j < 9 → defaultValue (tyX1 j) = vp_V dfX1 j := fun j hj => match j, hj with
  | 0, _ => rfl
  | 1, _ => rfl
  | 2, _ => rfl
  | 3, _ => rfl
  | 4, _ => rfl
  | 5, _ => rfl
  | 6, _ => rfl
  | 7, _ => rfl
  | 8, _ => rfl
  | n + 9, h => absurd h (by omega)
theorem wI_2 : Cond.instantiable RX2 9 ∈ Gs := (Gs_of (tb_1 (i := 59) (by decide +kernel)) rfl)
theorem wJ_2 : Cond.initialized RX2 ∈ Gs := (Gs_of (tb_1 (i := 3) (by decide +kernel)) rfl)
theorem wV_2 : Cond.instanceMethod yX2_init ∈ Gs := (Gs_of (tb_1 (i := 61) (by decide +kernel)) rfl)
def dfX2 : List Value := [.int 0, .int 0, .null, .null, .null, .null, .null, .null, .null]
theorem df_2 : ∀ j, j < 9 → defaultValue (tyX2 j) = vp_V dfX2 j := fun j hj => match j, hj with
  | 0, _ => rfl
  | 1, _ => rfl
  | 2, _ => rfl
  | 3, _ => rfl
  | 4, _ => rfl
  | 5, _ => rfl
  | 6, _ => rfl
  | 7, _ => rfl
  | 8, _ => rfl
  | n + 9, h => absurd h (by omega)
theorem wI_3 : Cond.instantiable RX3 7 ∈ Gs := (Gs_of (tb_1 (i := 26) (by decide +kernel)) rfl)
theorem wJ_3 : Cond.initialized RX3 ∈ Gs := (Gs_of (tb_1 (i := 2) (by decide +kernel)) rfl)
theorem wV_3 : Cond.instanceMethod yX3_init ∈ Gs := (Gs_of (tb_1 (i := 28) (by decide +kernel)) rfl)
def dfX3 : List Value := [.int 0, .int 0, .int 0, .int 0, .null, .null, .null]
theorem df_3 : ∀ j, j < 7 → defaultValue (tyX3 j) = vp_V dfX3 j := fun j hj => match j, hj with
  | 0, _ => rfl
  | 1, _ => rfl
  | 2, _ => rfl
  | 3, _ => rfl
  | 4, _ => rfl
  | 5, _ => rfl
  | 6, _ => rfl
  | n + 7, h => absurd h (by omega)
theorem wI_4 : Cond.instantiable RX4 3 ∈ Gs := (Gs_of (tb_1 (i := 141) (by decide +kernel)) rfl)
theorem wJ_4 : Cond.initialized RX4 ∈ Gs := (Gs_of (tb_1 (i := 5) (by decide +kernel)) rfl)
theorem wV_4 : Cond.instanceMethod yX4_init ∈ Gs := (Gs_of (tb_1 (i := 143) (by decide +kernel)) rfl)
def dfX4 : List Value := [.null, .int 0, .int 0]
theorem df_4 : ∀ j, j < 3 → defaultValue (tyX4 j) = vp_V dfX4 j := fun j hj => match j, hj with
  | 0, _ => rfl
  | 1, _ => rfl
  | 2, _ => rfl
  | n + 3, h => absurd h (by omega)
theorem wI_5 : Cond.instantiable RX5 3 ∈ Gs := (Gs_of (tb_1 (i := 185) (by decide +kernel)) rfl)
theorem wJ_5 : Cond.initialized RX5 ∈ Gs := (Gs_of (tb_1 (i := 7) (by decide +kernel)) rfl)
theorem wV_5 : Cond.instanceMethod yX5_init ∈ Gs := (Gs_of (tb_1 (i := 187) (by decide +kernel)) rfl)
def dfX5 : List Value := [.int 0, .int 0, .null]
theorem df_5 : ∀ j, j < 3 → defaultValue (tyX5 j) = vp_V dfX5 j := fun j hj => match j, hj with
  | 0, _ => rfl
  | 1, _ => rfl
  | 2, _ => rfl
  | n + 3, h => absurd h (by omega)
theorem wI_6 : Cond.instantiable RX6 12 ∈ Gs := (Gs_of (tb_1 (i := 18) (by decide +kernel)) rfl)
theorem wJ_6 : Cond.initialized RX6 ∈ Gs := (Gs_of (tb_1 (i := 1) (by decide +kernel)) rfl)
theorem wV_6 : Cond.instanceMethod yX6_init ∈ Gs := (Gs_of (tb_1 (i := 20) (by decide +kernel)) rfl)
def dfX6 : List Value := [.null, .null, .null, .null, .null, .int 0, .null, .int 0, .null, .null, .null, .null]
theorem df_6 : ∀ j, j < 12 → defaultValue (tyX6 j) = vp_V dfX6 j := fun j hj => match j, hj with
  | 0, _ => rfl
  | 1, _ => rfl
  | 2, _ => rfl
  | 3, _ => rfl
  | 4, _ => rfl
  | 5, _ => rfl
  | 6, _ => rfl
  | 7, _ => rfl
  | 8, _ => rfl
  | 9, _ => rfl
  | 10, _ => rfl
  | 11, _ => rfl
  | n + 12, h => absurd h (by omega)
theorem wI_7 : Cond.instantiable RX7 64 ∈ Gs := (Gs_of (tb_4 (i := 77) (by decide +kernel)) rfl)
theorem wJ_7 : Cond.initialized RX7 ∈ Gs := (Gs_of (tb_1 (i := 8) (by decide +kernel)) rfl)
theorem wV_7 : Cond.instanceMethod yX7_init ∈ Gs := (Gs_of (tb_4 (i := 79) (by decide +kernel)) rfl)
def dfX7 : List Value := [.int 0, .int 0, .null, .null, .null, .null, .null, .int 0, .int 0, .int 0, .int 0, .int 0, .null, .null, .null, .null, .null, .null, .null, .null, .int 0, .int 0, .int 0, .null, .null, .null, .null, .int 0, .null, .null, .null, .int 0, .null, .null, .null, .int 0, .int 0, .null, .null, .null, .int 0, .int 0, .int 0, .int 0, .int 0, .int 0, .int 0, .null, .null, .null, .null, .null, .null, .null, .null, .null, .null, .null, .int 0, .null, .null, .null, .null, .null]
theorem df_7 : ∀ j, j < 64 → defaultValue (tyX7 j) = vp_V dfX7 j := fun j hj => match j, hj with
  | 0, _ => rfl
  | 1, _ => rfl
  | 2, _ => rfl
  | 3, _ => rfl
  | 4, _ => rfl
  | 5, _ => rfl
  | 6, _ => rfl
  | 7, _ => rfl
  | 8, _ => rfl
  | 9, _ => rfl
  | 10, _ => rfl
  | 11, _ => rfl
  | 12, _ => rfl
  | 13, _ => rfl
  | 14, _ => rfl
  | 15, _ => rfl
  | 16, _ => rfl
  | 17, _ => rfl
  | 18, _ => rfl
  | 19, _ => rfl
  | 20, _ => rfl
  | 21, _ => rfl
  | 22, _ => rfl
  | 23, _ => rfl
  | 24, _ => rfl
  | 25, _ => rfl
  | 26, _ => rfl
  | 27, _ => rfl
  | 28, _ => rfl
  | 29, _ => rfl
  | 30, _ => rfl
  | 31, _ => rfl
  | 32, _ => rfl
  | 33, _ => rfl
  | 34, _ => rfl
  | 35, _ => rfl
  | 36, _ => rfl
  | 37, _ => rfl
  | 38, _ => rfl
  | 39, _ => rfl
  | 40, _ => rfl
  | 41, _ => rfl
  | 42, _ => rfl
  | 43, _ => rfl
  | 44, _ => rfl
  | 45, _ => rfl
  | 46, _ => rfl
  | 47, _ => rfl
  | 48, _ => rfl
  | 49, _ => rfl
  | 50, _ => rfl
  | 51, _ => rfl
  | 52, _ => rfl
  | 53, _ => rfl
  | 54, _ => rfl
  | 55, _ => rfl
  | 56, _ => rfl
  | 57, _ => rfl
  | 58, _ => rfl
  | 59, _ => rfl
  | 60, _ => rfl
  | 61, _ => rfl
  | 62, _ => rfl
  | 63, _ => rfl
  | n + 64, h => absurd h (by omega)
theorem upd_row (row : Int → Int) {i : Int} (v : Int) (h : 0 ≤ i ∧ i ≤ 2147483647) : upd (fun j : Nat => Int32.ofInt (row (j : Int))) (Int32.ofInt i).toNatClampNeg (Int32.ofInt v) = fun j : Nat => Int32.ofInt (ur row i v (j : Int)) := by
  have hc : (Int32.ofInt i).toNatClampNeg = i.toNat := io_cl (by omega)
  rw [hc]
  funext j
  unfold upd ur
  by_cases e : j = i.toNat
  · rw [if_pos e, if_pos (by omega)]
  · rw [if_neg e, if_neg (by omega)]
theorem I_iaR {g : GC} {X : CX} {own : String} {cc : ByteArray} {pc nx : Nat} {lv : List (Nat × Value)} {st : List Value} {pre post : va_W} {k sl j a n : Nat} {row : Int → Int} {i v : Int} {x : Nat × va_E} (d : DI cc pc .iastore 1 nx) (hp : post[j]? = some (a, .inl (g.2.2.2.2 0, n, .inl (fun j : Nat => Int32.ofInt (row (j : Int)))))) (h0 : 0 ≤ i) (h1 : i < n) (h2 : n < 2147483648)
    (K : IW g X own cc nx lv st (pre ++ x :: post.set j (a, .inl (g.2.2.2.2 0, n, .inl (fun j : Nat => Int32.ofInt (ur row i v (j : Int)))))) k sl) : IW g X own cc pc lv (.int (Int32.ofInt v) :: .int (Int32.ofInt i) :: .ref a :: st) (pre ++ x :: post) k sl := by
  refine I_iast d hp (io_in h0 h1 h2) ?_
  rw [upd_row row v (by omega)]
  exact K
def mkX0 (g : GC) (qs : Nat → Nat) : va_W := [(qs 0, .inr (0, [.int 0, .ref (qs 1), .int 0, .int 0, .int 0])), (qs 1, .inl (g.2.2.2.2 0, 20, .inl (fun _ => Int32.ofInt 0)))]
set_option maxRecDepth 20000 in
theorem mk_X0 {g : GC} (pre : va_W) (h : Nat) : CI g mX0_init 2 1 20 [.ref h] (pre ++ [(h, .inr (0, dfX0))]) (fun w => ∃ qs : Nat → Nat, qs 0 = h ∧ w = pre ++ mkX0 g qs) := by
  refine CI.of (lv := [(0, .ref h)]) (plainFor_of_name (by decide +kernel)) rfl rfl (by exact Nat.le_of_ble_eq_true rfl) rfl (fun X hnL hz hDp => ?_)
  refine I_al qX0_init_0 rfl 0 rfl ?_
  refine I_obj hDp (by decide) qX0_init_1 (Gs_of (tb_1 (i := 164) (by decide +kernel)) rfl) wO_1 wO_2 (by exact Nat.le_of_ble_eq_true rfl) ?_
  refine I_al qX0_init_4 rfl 0 rfl ?_
  refine I_bi (v := Int32.ofInt (20)) qX0_init_5 (by decide +kernel) ?_
  refine I_newa (t := 0) (N := 20) (ty := .int) (a0 := (20, .inl (fun _ => Int32.ofInt 0))) hDp qX0_init_7 rfl wA_int rfl (fun _ => rfl) (by decide +kernel) (by decide +kernel) (by decide +kernel) (by exact Nat.le_of_ble_eq_true rfl) (by exact Nat.le_of_ble_eq_true rfl) (fun q1 => ?_)
  rw [List.append_assoc]
  show IW g X _ _ _ _ _ (pre ++ (h, .inr (0, _)) :: [(q1, .inl (g.2.2.2.2 0, 20, .inl (fun _ => Int32.ofInt 0)))]) 1 20
  refine I_putF hz qX0_init_9 fX0_11 (C := RX0) (T := TX0) (N := 5) (ty := (.array .int)) rfl rfl rfl (by decide +kernel) rfl rfl (by exact Nat.le_of_ble_eq_true rfl) (Gs_of (tb_1 (i := 167) (by decide +kernel)) rfl) ?_
  show IW g X _ _ _ _ _ (pre ++ (h, .inr (0, [.int 0, .ref q1, .int 0, .int 0, .int 0])) :: _) 1 20
  exact I_ret hz qX0_init_12 ⟨fun i => [h, q1].getD i 0, rfl, rfl⟩
def mkX1 (g : GC) (qs : Nat → Nat) : va_W := [(qs 0, .inr (1, [.int 0, .ref (qs 1), .ref (qs 2), .ref (qs 3), .int 0, .ref (qs 4), .int 0, .ref (qs 5), .ref (qs 6)])), (qs 1, .inl (g.2.2.2.2 0, 5, .inl (fun _ => Int32.ofInt 0))), (qs 2, .inl (g.2.2.2.2 0, 5, .inl (fun _ => Int32.ofInt 0))), (qs 3, .inl (g.2.2.2.2 0, 5, .inl (fun _ => Int32.ofInt 0))), (qs 4, .inl (g.2.2.2.2 0, 10, .inl (fun _ => Int32.ofInt 0))), (qs 5, .inl (g.2.2.2.2 0, 8, .inl (fun _ => Int32.ofInt 0))), (qs 6, .inl (g.2.2.2.2 0, 8, .inl (fun _ => Int32.ofInt 0)))]
set_option maxRecDepth 20000 in
theorem mk_X1 {g : GC} (pre : va_W) (h : Nat) : CI g mX1_init 2 6 41 [.ref h] (pre ++ [(h, .inr (1, dfX1))]) (fun w => ∃ qs : Nat → Nat, qs 0 = h ∧ w = pre ++ mkX1 g qs) := by
  refine CI.of (lv := [(0, .ref h)]) (plainFor_of_name (by decide +kernel)) rfl rfl (by exact Nat.le_of_ble_eq_true rfl) rfl (fun X hnL hz hDp => ?_)
  refine I_al qX1_init_0 rfl 0 rfl ?_
  refine I_obj hDp (by decide) qX1_init_1 (Gs_of (tb_1 (i := 107) (by decide +kernel)) rfl) wO_1 wO_2 (by exact Nat.le_of_ble_eq_true rfl) ?_
  refine I_al qX1_init_4 rfl 0 rfl ?_
  refine I_ic (v := Int32.ofInt (5)) qX1_init_5 (by decide +kernel) ?_
  refine I_newa (t := 0) (N := 5) (ty := .int) (a0 := (5, .inl (fun _ => Int32.ofInt 0))) hDp qX1_init_6 rfl wA_int rfl (fun _ => rfl) (by decide +kernel) (by decide +kernel) (by decide +kernel) (by exact Nat.le_of_ble_eq_true rfl) (by exact Nat.le_of_ble_eq_true rfl) (fun q1 => ?_)
  rw [List.append_assoc]
  show IW g X _ _ _ _ _ (pre ++ (h, .inr (1, _)) :: [(q1, .inl (g.2.2.2.2 0, 5, .inl (fun _ => Int32.ofInt 0)))]) 1 5
  refine I_putF hz qX1_init_8 fX1_11 (C := RX1) (T := TX1) (N := 9) (ty := (.array .int)) rfl rfl rfl (by decide +kernel) rfl rfl (by exact Nat.le_of_ble_eq_true rfl) (Gs_of (tb_1 (i := 110) (by decide +kernel)) rfl) ?_
  show IW g X _ _ _ _ _ (pre ++ (h, .inr (1, [.int 0, .ref q1, .null, .null, .int 0, .null, .int 0, .null, .null])) :: _) 1 5
  refine I_al qX1_init_11 rfl 0 rfl ?_
  refine I_ic (v := Int32.ofInt (5)) qX1_init_12 (by decide +kernel) ?_
  refine I_newa (t := 0) (N := 5) (ty := .int) (a0 := (5, .inl (fun _ => Int32.ofInt 0))) hDp qX1_init_13 rfl wA_int rfl (fun _ => rfl) (by decide +kernel) (by decide +kernel) (by decide +kernel) (by exact Nat.le_of_ble_eq_true rfl) (by exact Nat.le_of_ble_eq_true rfl) (fun q2 => ?_)
  rw [List.append_assoc]
  show IW g X _ _ _ _ _ (pre ++ (h, .inr (1, _)) :: [(q1, .inl (g.2.2.2.2 0, 5, .inl (fun _ => Int32.ofInt 0))), (q2, .inl (g.2.2.2.2 0, 5, .inl (fun _ => Int32.ofInt 0)))]) 2 10
  refine I_putF hz qX1_init_15 fX1_15 (C := RX1) (T := TX1) (N := 9) (ty := (.array .int)) rfl rfl rfl (by decide +kernel) rfl rfl (by exact Nat.le_of_ble_eq_true rfl) (Gs_of (tb_1 (i := 111) (by decide +kernel)) rfl) ?_
  show IW g X _ _ _ _ _ (pre ++ (h, .inr (1, [.int 0, .ref q1, .ref q2, .null, .int 0, .null, .int 0, .null, .null])) :: _) 2 10
  refine I_al qX1_init_18 rfl 0 rfl ?_
  refine I_ic (v := Int32.ofInt (5)) qX1_init_19 (by decide +kernel) ?_
  refine I_newa (t := 0) (N := 5) (ty := .int) (a0 := (5, .inl (fun _ => Int32.ofInt 0))) hDp qX1_init_20 rfl wA_int rfl (fun _ => rfl) (by decide +kernel) (by decide +kernel) (by decide +kernel) (by exact Nat.le_of_ble_eq_true rfl) (by exact Nat.le_of_ble_eq_true rfl) (fun q3 => ?_)
  rw [List.append_assoc]
  show IW g X _ _ _ _ _ (pre ++ (h, .inr (1, _)) :: [(q1, .inl (g.2.2.2.2 0, 5, .inl (fun _ => Int32.ofInt 0))), (q2, .inl (g.2.2.2.2 0, 5, .inl (fun _ => Int32.ofInt 0))), (q3, .inl (g.2.2.2.2 0, 5, .inl (fun _ => Int32.ofInt 0)))]) 3 15
  refine I_putF hz qX1_init_22 fX1_18 (C := RX1) (T := TX1) (N := 9) (ty := (.array .int)) rfl rfl rfl (by decide +kernel) rfl rfl (by exact Nat.le_of_ble_eq_true rfl) (Gs_of (tb_1 (i := 112) (by decide +kernel)) rfl) ?_
  show IW g X _ _ _ _ _ (pre ++ (h, .inr (1, [.int 0, .ref q1, .ref q2, .ref q3, .int 0, .null, .int 0, .null, .null])) :: _) 3 15
  refine I_al qX1_init_25 rfl 0 rfl ?_
  refine I_bi (v := Int32.ofInt (10)) qX1_init_26 (by decide +kernel) ?_
  refine I_newa (t := 0) (N := 10) (ty := .int) (a0 := (10, .inl (fun _ => Int32.ofInt 0))) hDp qX1_init_28 rfl wA_int rfl (fun _ => rfl) (by decide +kernel) (by decide +kernel) (by decide +kernel) (by exact Nat.le_of_ble_eq_true rfl) (by exact Nat.le_of_ble_eq_true rfl) (fun q4 => ?_)
  rw [List.append_assoc]
  show IW g X _ _ _ _ _ (pre ++ (h, .inr (1, _)) :: [(q1, .inl (g.2.2.2.2 0, 5, .inl (fun _ => Int32.ofInt 0))), (q2, .inl (g.2.2.2.2 0, 5, .inl (fun _ => Int32.ofInt 0))), (q3, .inl (g.2.2.2.2 0, 5, .inl (fun _ => Int32.ofInt 0))), (q4, .inl (g.2.2.2.2 0, 10, .inl (fun _ => Int32.ofInt 0)))]) 4 25
  refine I_putF hz qX1_init_30 fX1_21 (C := RX1) (T := TX1) (N := 9) (ty := (.array .int)) rfl rfl rfl (by decide +kernel) rfl rfl (by exact Nat.le_of_ble_eq_true rfl) (Gs_of (tb_1 (i := 115) (by decide +kernel)) rfl) ?_
  show IW g X _ _ _ _ _ (pre ++ (h, .inr (1, [.int 0, .ref q1, .ref q2, .ref q3, .int 0, .ref q4, .int 0, .null, .null])) :: _) 4 25
  refine I_al qX1_init_33 rfl 0 rfl ?_
  refine I_bi (v := Int32.ofInt (8)) qX1_init_34 (by decide +kernel) ?_
  refine I_newa (t := 0) (N := 8) (ty := .int) (a0 := (8, .inl (fun _ => Int32.ofInt 0))) hDp qX1_init_36 rfl wA_int rfl (fun _ => rfl) (by decide +kernel) (by decide +kernel) (by decide +kernel) (by exact Nat.le_of_ble_eq_true rfl) (by exact Nat.le_of_ble_eq_true rfl) (fun q5 => ?_)
  rw [List.append_assoc]
  show IW g X _ _ _ _ _ (pre ++ (h, .inr (1, _)) :: [(q1, .inl (g.2.2.2.2 0, 5, .inl (fun _ => Int32.ofInt 0))), (q2, .inl (g.2.2.2.2 0, 5, .inl (fun _ => Int32.ofInt 0))), (q3, .inl (g.2.2.2.2 0, 5, .inl (fun _ => Int32.ofInt 0))), (q4, .inl (g.2.2.2.2 0, 10, .inl (fun _ => Int32.ofInt 0))), (q5, .inl (g.2.2.2.2 0, 8, .inl (fun _ => Int32.ofInt 0)))]) 5 33
  refine I_putF hz qX1_init_38 fX1_24 (C := RX1) (T := TX1) (N := 9) (ty := (.array .int)) rfl rfl rfl (by decide +kernel) rfl rfl (by exact Nat.le_of_ble_eq_true rfl) (Gs_of (tb_1 (i := 118) (by decide +kernel)) rfl) ?_
  show IW g X _ _ _ _ _ (pre ++ (h, .inr (1, [.int 0, .ref q1, .ref q2, .ref q3, .int 0, .ref q4, .int 0, .ref q5, .null])) :: _) 5 33
  refine I_al qX1_init_41 rfl 0 rfl ?_
  refine I_bi (v := Int32.ofInt (8)) qX1_init_42 (by decide +kernel) ?_
  refine I_newa (t := 0) (N := 8) (ty := .int) (a0 := (8, .inl (fun _ => Int32.ofInt 0))) hDp qX1_init_44 rfl wA_int rfl (fun _ => rfl) (by decide +kernel) (by decide +kernel) (by decide +kernel) (by exact Nat.le_of_ble_eq_true rfl) (by exact Nat.le_of_ble_eq_true rfl) (fun q6 => ?_)
  rw [List.append_assoc]
  show IW g X _ _ _ _ _ (pre ++ (h, .inr (1, _)) :: [(q1, .inl (g.2.2.2.2 0, 5, .inl (fun _ => Int32.ofInt 0))), (q2, .inl (g.2.2.2.2 0, 5, .inl (fun _ => Int32.ofInt 0))), (q3, .inl (g.2.2.2.2 0, 5, .inl (fun _ => Int32.ofInt 0))), (q4, .inl (g.2.2.2.2 0, 10, .inl (fun _ => Int32.ofInt 0))), (q5, .inl (g.2.2.2.2 0, 8, .inl (fun _ => Int32.ofInt 0))), (q6, .inl (g.2.2.2.2 0, 8, .inl (fun _ => Int32.ofInt 0)))]) 6 41
  refine I_putF hz qX1_init_46 fX1_27 (C := RX1) (T := TX1) (N := 9) (ty := (.array .int)) rfl rfl rfl (by decide +kernel) rfl rfl (by exact Nat.le_of_ble_eq_true rfl) (Gs_of (tb_1 (i := 119) (by decide +kernel)) rfl) ?_
  show IW g X _ _ _ _ _ (pre ++ (h, .inr (1, [.int 0, .ref q1, .ref q2, .ref q3, .int 0, .ref q4, .int 0, .ref q5, .ref q6])) :: _) 6 41
  exact I_ret hz qX1_init_49 ⟨fun i => [h, q1, q2, q3, q4, q5, q6].getD i 0, rfl, rfl⟩
def mkX3 (g : GC) (qs : Nat → Nat) : va_W := [(qs 0, .inr (3, [.int (Int32.ofInt (24)), .int 0, .int 0, .int 0, .ref (qs 1), .ref (qs 2), .ref (qs 3)])), (qs 1, .inl (g.2.2.2.2 0, 10, .inl (fun _ => Int32.ofInt 0))), (qs 2, .inl (g.2.2.2.2 0, 10, .inl (fun _ => Int32.ofInt 0))), (qs 3, .inl (g.2.2.2.2 0, 100, .inl (fun _ => Int32.ofInt 0)))]
set_option maxRecDepth 20000 in
theorem mk_X3 {g : GC} (pre : va_W) (h : Nat) : CI g mX3_init 2 3 120 [.ref h] (pre ++ [(h, .inr (3, dfX3))]) (fun w => ∃ qs : Nat → Nat, qs 0 = h ∧ w = pre ++ mkX3 g qs) := by
  refine CI.of (lv := [(0, .ref h)]) (plainFor_of_name (by decide +kernel)) rfl rfl (by exact Nat.le_of_ble_eq_true rfl) rfl (fun X hnL hz hDp => ?_)
  refine I_al qX3_init_0 rfl 0 rfl ?_
  refine I_obj hDp (by decide) qX3_init_1 (Gs_of (tb_1 (i := 30) (by decide +kernel)) rfl) wO_1 wO_2 (by exact Nat.le_of_ble_eq_true rfl) ?_
  refine I_al qX3_init_4 rfl 0 rfl ?_
  refine I_bi (v := Int32.ofInt (24)) qX3_init_5 (by decide +kernel) ?_
  refine I_put qX3_init_7 fX3_11 (C := RX3) (T := TX3) (N := 7) (ty := .int) rfl rfl (by decide +kernel) rfl rfl (by exact Nat.le_of_ble_eq_true rfl) (Gs_of (tb_1 (i := 31) (by decide +kernel)) rfl) ?_
  show IW g X _ _ _ _ _ (pre ++ (h, .inr (3, [.int (Int32.ofInt (24)), .int 0, .int 0, .int 0, .null, .null, .null])) :: _) 0 0
  refine I_al qX3_init_10 rfl 0 rfl ?_
  refine I_bi (v := Int32.ofInt (10)) qX3_init_11 (by decide +kernel) ?_
  refine I_newa (t := 0) (N := 10) (ty := .int) (a0 := (10, .inl (fun _ => Int32.ofInt 0))) hDp qX3_init_13 rfl wA_int rfl (fun _ => rfl) (by decide +kernel) (by decide +kernel) (by decide +kernel) (by exact Nat.le_of_ble_eq_true rfl) (by exact Nat.le_of_ble_eq_true rfl) (fun q1 => ?_)
  rw [List.append_assoc]
  show IW g X _ _ _ _ _ (pre ++ (h, .inr (3, _)) :: [(q1, .inl (g.2.2.2.2 0, 10, .inl (fun _ => Int32.ofInt 0)))]) 1 10
  refine I_putF hz qX3_init_15 fX3_15 (C := RX3) (T := TX3) (N := 7) (ty := (.array .int)) rfl rfl rfl (by decide +kernel) rfl rfl (by exact Nat.le_of_ble_eq_true rfl) (Gs_of (tb_1 (i := 39) (by decide +kernel)) rfl) ?_
  show IW g X _ _ _ _ _ (pre ++ (h, .inr (3, [.int (Int32.ofInt (24)), .int 0, .int 0, .int 0, .ref q1, .null, .null])) :: _) 1 10
  refine I_al qX3_init_18 rfl 0 rfl ?_
  refine I_bi (v := Int32.ofInt (10)) qX3_init_19 (by decide +kernel) ?_
  refine I_newa (t := 0) (N := 10) (ty := .int) (a0 := (10, .inl (fun _ => Int32.ofInt 0))) hDp qX3_init_21 rfl wA_int rfl (fun _ => rfl) (by decide +kernel) (by decide +kernel) (by decide +kernel) (by exact Nat.le_of_ble_eq_true rfl) (by exact Nat.le_of_ble_eq_true rfl) (fun q2 => ?_)
  rw [List.append_assoc]
  show IW g X _ _ _ _ _ (pre ++ (h, .inr (3, _)) :: [(q1, .inl (g.2.2.2.2 0, 10, .inl (fun _ => Int32.ofInt 0))), (q2, .inl (g.2.2.2.2 0, 10, .inl (fun _ => Int32.ofInt 0)))]) 2 20
  refine I_putF hz qX3_init_23 fX3_19 (C := RX3) (T := TX3) (N := 7) (ty := (.array .int)) rfl rfl rfl (by decide +kernel) rfl rfl (by exact Nat.le_of_ble_eq_true rfl) (Gs_of (tb_1 (i := 40) (by decide +kernel)) rfl) ?_
  show IW g X _ _ _ _ _ (pre ++ (h, .inr (3, [.int (Int32.ofInt (24)), .int 0, .int 0, .int 0, .ref q1, .ref q2, .null])) :: _) 2 20
  refine I_al qX3_init_26 rfl 0 rfl ?_
  refine I_bi (v := Int32.ofInt (100)) qX3_init_27 (by decide +kernel) ?_
  refine I_newa (t := 0) (N := 100) (ty := .int) (a0 := (100, .inl (fun _ => Int32.ofInt 0))) hDp qX3_init_29 rfl wA_int rfl (fun _ => rfl) (by decide +kernel) (by decide +kernel) (by decide +kernel) (by exact Nat.le_of_ble_eq_true rfl) (by exact Nat.le_of_ble_eq_true rfl) (fun q3 => ?_)
  rw [List.append_assoc]
  show IW g X _ _ _ _ _ (pre ++ (h, .inr (3, _)) :: [(q1, .inl (g.2.2.2.2 0, 10, .inl (fun _ => Int32.ofInt 0))), (q2, .inl (g.2.2.2.2 0, 10, .inl (fun _ => Int32.ofInt 0))), (q3, .inl (g.2.2.2.2 0, 100, .inl (fun _ => Int32.ofInt 0)))]) 3 120
  refine I_putF hz qX3_init_31 fX3_24 (C := RX3) (T := TX3) (N := 7) (ty := (.array .int)) rfl rfl rfl (by decide +kernel) rfl rfl (by exact Nat.le_of_ble_eq_true rfl) (Gs_of (tb_1 (i := 41) (by decide +kernel)) rfl) ?_
  show IW g X _ _ _ _ _ (pre ++ (h, .inr (3, [.int (Int32.ofInt (24)), .int 0, .int 0, .int 0, .ref q1, .ref q2, .ref q3])) :: _) 3 120
  exact I_ret hz qX3_init_34 ⟨fun i => [h, q1, q2, q3].getD i 0, rfl, rfl⟩
def mkX4 (g : GC) (qs : Nat → Nat) : va_W := [(qs 0, .inr (4, [.ref (qs 1), .int 0, .int 0])), (qs 1, .inl (g.2.2.2.2 3, 100, .inl (fun _ => Int32.ofInt 0)))]
set_option maxRecDepth 20000 in
theorem mk_X4 {g : GC} (pre : va_W) (h : Nat) : CI g mX4_init 2 1 100 [.ref h] (pre ++ [(h, .inr (4, dfX4))]) (fun w => ∃ qs : Nat → Nat, qs 0 = h ∧ w = pre ++ mkX4 g qs) := by
  refine CI.of (lv := [(0, .ref h)]) (plainFor_of_name (by decide +kernel)) rfl rfl (by exact Nat.le_of_ble_eq_true rfl) rfl (fun X hnL hz hDp => ?_)
  refine I_al qX4_init_0 rfl 0 rfl ?_
  refine I_obj hDp (by decide) qX4_init_1 (Gs_of (tb_1 (i := 145) (by decide +kernel)) rfl) wO_1 wO_2 (by exact Nat.le_of_ble_eq_true rfl) ?_
  refine I_al qX4_init_4 rfl 0 rfl ?_
  refine I_bi (v := Int32.ofInt (100)) qX4_init_5 (by decide +kernel) ?_
  refine I_newa (t := 3) (N := 100) (ty := .char) (a0 := (100, .inl (fun _ => Int32.ofInt 0))) hDp qX4_init_7 rfl wA_char rfl (fun _ => rfl) (by decide +kernel) (by decide +kernel) (by decide +kernel) (by exact Nat.le_of_ble_eq_true rfl) (by exact Nat.le_of_ble_eq_true rfl) (fun q1 => ?_)
  rw [List.append_assoc]
  show IW g X _ _ _ _ _ (pre ++ (h, .inr (4, _)) :: [(q1, .inl (g.2.2.2.2 3, 100, .inl (fun _ => Int32.ofInt 0)))]) 1 100
  refine I_putF hz qX4_init_9 fX4_11 (C := RX4) (T := TX4) (N := 3) (ty := (.array .char)) rfl rfl rfl (by decide +kernel) rfl rfl (by exact Nat.le_of_ble_eq_true rfl) (Gs_of (tb_1 (i := 146) (by decide +kernel)) rfl) ?_
  show IW g X _ _ _ _ _ (pre ++ (h, .inr (4, [.ref q1, .int 0, .int 0])) :: _) 1 100
  exact I_ret hz qX4_init_12 ⟨fun i => [h, q1].getD i 0, rfl, rfl⟩
def mkX5 (g : GC) (qs : Nat → Nat) : va_W := [(qs 0, .inr (5, [.int (Int32.ofInt (-1)), .int 0, .ref (qs 1)])), (qs 1, .inl (g.2.2.2.2 1, 60, .inr (.inl (fun _ => Int64.ofInt 0))))]
set_option maxRecDepth 20000 in
theorem mk_X5 {g : GC} (pre : va_W) (h : Nat) : CI g mX5_init 2 1 60 [.ref h] (pre ++ [(h, .inr (5, dfX5))]) (fun w => ∃ qs : Nat → Nat, qs 0 = h ∧ w = pre ++ mkX5 g qs) := by
  refine CI.of (lv := [(0, .ref h)]) (plainFor_of_name (by decide +kernel)) rfl rfl (by exact Nat.le_of_ble_eq_true rfl) rfl (fun X hnL hz hDp => ?_)
  refine I_al qX5_init_0 rfl 0 rfl ?_
  refine I_obj hDp (by decide) qX5_init_1 (Gs_of (tb_1 (i := 189) (by decide +kernel)) rfl) wO_1 wO_2 (by exact Nat.le_of_ble_eq_true rfl) ?_
  refine I_al qX5_init_4 rfl 0 rfl ?_
  refine I_ic (v := Int32.ofInt (-1)) qX5_init_5 (by decide +kernel) ?_
  refine I_put qX5_init_6 fX5_9 (C := RX5) (T := TX5) (N := 3) (ty := .int) rfl rfl (by decide +kernel) rfl rfl (by exact Nat.le_of_ble_eq_true rfl) (Gs_of (tb_1 (i := 190) (by decide +kernel)) rfl) ?_
  show IW g X _ _ _ _ _ (pre ++ (h, .inr (5, [.int (Int32.ofInt (-1)), .int 0, .null])) :: _) 0 0
  refine I_al qX5_init_9 rfl 0 rfl ?_
  refine I_bi (v := Int32.ofInt (60)) qX5_init_10 (by decide +kernel) ?_
  refine I_newa (t := 1) (N := 60) (ty := .long) (a0 := (60, .inr (.inl (fun _ => Int64.ofInt 0)))) hDp qX5_init_12 rfl wA_long rfl (fun _ => rfl) (by decide +kernel) (by decide +kernel) (by decide +kernel) (by exact Nat.le_of_ble_eq_true rfl) (by exact Nat.le_of_ble_eq_true rfl) (fun q1 => ?_)
  rw [List.append_assoc]
  show IW g X _ _ _ _ _ (pre ++ (h, .inr (5, _)) :: [(q1, .inl (g.2.2.2.2 1, 60, .inr (.inl (fun _ => Int64.ofInt 0))))]) 1 60
  refine I_putF hz qX5_init_14 fX5_13 (C := RX5) (T := TX5) (N := 3) (ty := (.array .long)) rfl rfl rfl (by decide +kernel) rfl rfl (by exact Nat.le_of_ble_eq_true rfl) (Gs_of (tb_1 (i := 194) (by decide +kernel)) rfl) ?_
  show IW g X _ _ _ _ _ (pre ++ (h, .inr (5, [.int (Int32.ofInt (-1)), .int 0, .ref q1])) :: _) 1 60
  exact I_ret hz qX5_init_17 ⟨fun i => [h, q1].getD i 0, rfl, rfl⟩
def mkX2 (g : GC) (hh : Nat) (qs : Nat → Nat) : va_W := [(qs 0, .inr (2, [.int 0, .int 0, .ref hh, .ref (qs 1), .ref (qs 2), .ref (qs 3), .ref (qs 4), .ref (qs 5), .ref (qs 6)])), (qs 1, .inl (g.2.2.2.2 0, 6, .inl (fun _ => Int32.ofInt 0))), (qs 2, .inl (g.2.2.2.2 0, 6, .inl (fun _ => Int32.ofInt 0))), (qs 3, .inl (g.2.2.2.2 0, 6, .inl (fun _ => Int32.ofInt 0))), (qs 4, .inl (g.2.2.2.2 0, 48, .inl (fun _ => Int32.ofInt 0))), (qs 5, .inl (g.2.2.2.2 0, 24, .inl (fun _ => Int32.ofInt 0))), (qs 6, .inl (g.2.2.2.2 0, 6, .inl (fun _ => Int32.ofInt 0)))]
set_option maxRecDepth 20000 in
theorem mk_X2 {g : GC} (pre : va_W) (h : Nat) (hh : Nat) : CI g mX2_init 2 6 96 [.ref h, .ref hh] (pre ++ [(h, .inr (2, dfX2))]) (fun w => ∃ qs : Nat → Nat, qs 0 = h ∧ w = pre ++ mkX2 g hh qs) := by
  refine CI.of (lv := [(0, .ref h), (1, .ref hh)]) (plainFor_of_name (by decide +kernel)) rfl rfl (by exact Nat.le_of_ble_eq_true rfl) rfl (fun X hnL hz hDp => ?_)
  refine I_al qX2_init_0 rfl 0 rfl ?_
  refine I_obj hDp (by decide) qX2_init_1 (Gs_of (tb_1 (i := 63) (by decide +kernel)) rfl) wO_1 wO_2 (by exact Nat.le_of_ble_eq_true rfl) ?_
  refine I_al qX2_init_4 rfl 0 rfl ?_
  refine I_bi (v := Int32.ofInt (6)) qX2_init_5 (by decide +kernel) ?_
  refine I_newa (t := 0) (N := 6) (ty := .int) (a0 := (6, .inl (fun _ => Int32.ofInt 0))) hDp qX2_init_7 rfl wA_int rfl (fun _ => rfl) (by decide +kernel) (by decide +kernel) (by decide +kernel) (by exact Nat.le_of_ble_eq_true rfl) (by exact Nat.le_of_ble_eq_true rfl) (fun q1 => ?_)
  rw [List.append_assoc]
  show IW g X _ _ _ _ _ (pre ++ (h, .inr (2, _)) :: [(q1, .inl (g.2.2.2.2 0, 6, .inl (fun _ => Int32.ofInt 0)))]) 1 6
  refine I_putF hz qX2_init_9 fX2_9 (C := RX2) (T := TX2) (N := 9) (ty := (.array .int)) rfl rfl rfl (by decide +kernel) rfl rfl (by exact Nat.le_of_ble_eq_true rfl) (Gs_of (tb_1 (i := 71) (by decide +kernel)) rfl) ?_
  show IW g X _ _ _ _ _ (pre ++ (h, .inr (2, [.int 0, .int 0, .null, .ref q1, .null, .null, .null, .null, .null])) :: _) 1 6
  refine I_al qX2_init_12 rfl 0 rfl ?_
  refine I_bi (v := Int32.ofInt (6)) qX2_init_13 (by decide +kernel) ?_
  refine I_newa (t := 0) (N := 6) (ty := .int) (a0 := (6, .inl (fun _ => Int32.ofInt 0))) hDp qX2_init_15 rfl wA_int rfl (fun _ => rfl) (by decide +kernel) (by decide +kernel) (by decide +kernel) (by exact Nat.le_of_ble_eq_true rfl) (by exact Nat.le_of_ble_eq_true rfl) (fun q2 => ?_)
  rw [List.append_assoc]
  show IW g X _ _ _ _ _ (pre ++ (h, .inr (2, _)) :: [(q1, .inl (g.2.2.2.2 0, 6, .inl (fun _ => Int32.ofInt 0))), (q2, .inl (g.2.2.2.2 0, 6, .inl (fun _ => Int32.ofInt 0)))]) 2 12
  refine I_putF hz qX2_init_17 fX2_15 (C := RX2) (T := TX2) (N := 9) (ty := (.array .int)) rfl rfl rfl (by decide +kernel) rfl rfl (by exact Nat.le_of_ble_eq_true rfl) (Gs_of (tb_1 (i := 74) (by decide +kernel)) rfl) ?_
  show IW g X _ _ _ _ _ (pre ++ (h, .inr (2, [.int 0, .int 0, .null, .ref q1, .ref q2, .null, .null, .null, .null])) :: _) 2 12
  refine I_al qX2_init_20 rfl 0 rfl ?_
  refine I_bi (v := Int32.ofInt (6)) qX2_init_21 (by decide +kernel) ?_
  refine I_newa (t := 0) (N := 6) (ty := .int) (a0 := (6, .inl (fun _ => Int32.ofInt 0))) hDp qX2_init_23 rfl wA_int rfl (fun _ => rfl) (by decide +kernel) (by decide +kernel) (by decide +kernel) (by exact Nat.le_of_ble_eq_true rfl) (by exact Nat.le_of_ble_eq_true rfl) (fun q3 => ?_)
  rw [List.append_assoc]
  show IW g X _ _ _ _ _ (pre ++ (h, .inr (2, _)) :: [(q1, .inl (g.2.2.2.2 0, 6, .inl (fun _ => Int32.ofInt 0))), (q2, .inl (g.2.2.2.2 0, 6, .inl (fun _ => Int32.ofInt 0))), (q3, .inl (g.2.2.2.2 0, 6, .inl (fun _ => Int32.ofInt 0)))]) 3 18
  refine I_putF hz qX2_init_25 fX2_18 (C := RX2) (T := TX2) (N := 9) (ty := (.array .int)) rfl rfl rfl (by decide +kernel) rfl rfl (by exact Nat.le_of_ble_eq_true rfl) (Gs_of (tb_1 (i := 77) (by decide +kernel)) rfl) ?_
  show IW g X _ _ _ _ _ (pre ++ (h, .inr (2, [.int 0, .int 0, .null, .ref q1, .ref q2, .ref q3, .null, .null, .null])) :: _) 3 18
  refine I_al qX2_init_28 rfl 0 rfl ?_
  refine I_bi (v := Int32.ofInt (48)) qX2_init_29 (by decide +kernel) ?_
  refine I_newa (t := 0) (N := 48) (ty := .int) (a0 := (48, .inl (fun _ => Int32.ofInt 0))) hDp qX2_init_31 rfl wA_int rfl (fun _ => rfl) (by decide +kernel) (by decide +kernel) (by decide +kernel) (by exact Nat.le_of_ble_eq_true rfl) (by exact Nat.le_of_ble_eq_true rfl) (fun q4 => ?_)
  rw [List.append_assoc]
  show IW g X _ _ _ _ _ (pre ++ (h, .inr (2, _)) :: [(q1, .inl (g.2.2.2.2 0, 6, .inl (fun _ => Int32.ofInt 0))), (q2, .inl (g.2.2.2.2 0, 6, .inl (fun _ => Int32.ofInt 0))), (q3, .inl (g.2.2.2.2 0, 6, .inl (fun _ => Int32.ofInt 0))), (q4, .inl (g.2.2.2.2 0, 48, .inl (fun _ => Int32.ofInt 0)))]) 4 66
  refine I_putF hz qX2_init_33 fX2_21 (C := RX2) (T := TX2) (N := 9) (ty := (.array .int)) rfl rfl rfl (by decide +kernel) rfl rfl (by exact Nat.le_of_ble_eq_true rfl) (Gs_of (tb_1 (i := 79) (by decide +kernel)) rfl) ?_
  show IW g X _ _ _ _ _ (pre ++ (h, .inr (2, [.int 0, .int 0, .null, .ref q1, .ref q2, .ref q3, .ref q4, .null, .null])) :: _) 4 66
  refine I_al qX2_init_36 rfl 0 rfl ?_
  refine I_bi (v := Int32.ofInt (24)) qX2_init_37 (by decide +kernel) ?_
  refine I_newa (t := 0) (N := 24) (ty := .int) (a0 := (24, .inl (fun _ => Int32.ofInt 0))) hDp qX2_init_39 rfl wA_int rfl (fun _ => rfl) (by decide +kernel) (by decide +kernel) (by decide +kernel) (by exact Nat.le_of_ble_eq_true rfl) (by exact Nat.le_of_ble_eq_true rfl) (fun q5 => ?_)
  rw [List.append_assoc]
  show IW g X _ _ _ _ _ (pre ++ (h, .inr (2, _)) :: [(q1, .inl (g.2.2.2.2 0, 6, .inl (fun _ => Int32.ofInt 0))), (q2, .inl (g.2.2.2.2 0, 6, .inl (fun _ => Int32.ofInt 0))), (q3, .inl (g.2.2.2.2 0, 6, .inl (fun _ => Int32.ofInt 0))), (q4, .inl (g.2.2.2.2 0, 48, .inl (fun _ => Int32.ofInt 0))), (q5, .inl (g.2.2.2.2 0, 24, .inl (fun _ => Int32.ofInt 0)))]) 5 90
  refine I_putF hz qX2_init_41 fX2_24 (C := RX2) (T := TX2) (N := 9) (ty := (.array .int)) rfl rfl rfl (by decide +kernel) rfl rfl (by exact Nat.le_of_ble_eq_true rfl) (Gs_of (tb_1 (i := 80) (by decide +kernel)) rfl) ?_
  show IW g X _ _ _ _ _ (pre ++ (h, .inr (2, [.int 0, .int 0, .null, .ref q1, .ref q2, .ref q3, .ref q4, .ref q5, .null])) :: _) 5 90
  refine I_al qX2_init_44 rfl 0 rfl ?_
  refine I_bi (v := Int32.ofInt (6)) qX2_init_45 (by decide +kernel) ?_
  refine I_newa (t := 0) (N := 6) (ty := .int) (a0 := (6, .inl (fun _ => Int32.ofInt 0))) hDp qX2_init_47 rfl wA_int rfl (fun _ => rfl) (by decide +kernel) (by decide +kernel) (by decide +kernel) (by exact Nat.le_of_ble_eq_true rfl) (by exact Nat.le_of_ble_eq_true rfl) (fun q6 => ?_)
  rw [List.append_assoc]
  show IW g X _ _ _ _ _ (pre ++ (h, .inr (2, _)) :: [(q1, .inl (g.2.2.2.2 0, 6, .inl (fun _ => Int32.ofInt 0))), (q2, .inl (g.2.2.2.2 0, 6, .inl (fun _ => Int32.ofInt 0))), (q3, .inl (g.2.2.2.2 0, 6, .inl (fun _ => Int32.ofInt 0))), (q4, .inl (g.2.2.2.2 0, 48, .inl (fun _ => Int32.ofInt 0))), (q5, .inl (g.2.2.2.2 0, 24, .inl (fun _ => Int32.ofInt 0))), (q6, .inl (g.2.2.2.2 0, 6, .inl (fun _ => Int32.ofInt 0)))]) 6 96
  refine I_putF hz qX2_init_49 fX2_27 (C := RX2) (T := TX2) (N := 9) (ty := (.array .int)) rfl rfl rfl (by decide +kernel) rfl rfl (by exact Nat.le_of_ble_eq_true rfl) (Gs_of (tb_1 (i := 82) (by decide +kernel)) rfl) ?_
  show IW g X _ _ _ _ _ (pre ++ (h, .inr (2, [.int 0, .int 0, .null, .ref q1, .ref q2, .ref q3, .ref q4, .ref q5, .ref q6])) :: _) 6 96
  refine I_al qX2_init_52 rfl 0 rfl ?_
  refine I_al qX2_init_53 rfl 1 rfl ?_
  refine I_put qX2_init_54 fX2_30 (C := RX2) (T := TX2) (N := 9) (ty := (.object "TwoBeatsAgo$Hall")) rfl rfl (by decide +kernel) rfl rfl (by exact Nat.le_of_ble_eq_true rfl) (Gs_of (tb_1 (i := 69) (by decide +kernel)) rfl) ?_
  show IW g X _ _ _ _ _ (pre ++ (h, .inr (2, [.int 0, .int 0, .ref hh, .ref q1, .ref q2, .ref q3, .ref q4, .ref q5, .ref q6])) :: _) 6 96
  exact I_ret hz qX2_init_57 ⟨fun i => [h, q1, q2, q3, q4, q5, q6].getD i 0, rfl, rfl⟩
