/-! the equations: J -/
def st_J6_bitCount_0f7a4 : List (Nat × List Bool) := []
theorem sk_J6_bitCount_0f7a4 : ∀ pc bs, tstop st_J6_bitCount_0f7a4 pc = some bs → ∃ a, k_J6_bitCount_0f7a4 pc = some (aMk bs a) := tstop_ok (fun _ h => absurd h List.not_mem_nil)
set_option maxRecDepth 20000 in
theorem e_J6_bitCount_0f7a4 (x0 : Int32) (G : tH) : V_J6_bitCount_0f7a4 x0 G = let z_1 : Int32 := x0 - (((x0.toUInt32 >>> ((nI 1).toUInt32 &&& Int32.toUInt32 31)).toInt32) &&& (nI 1431655765))
  let z_2 : Int32 := (z_1 &&& (nI 858993459)) + (((z_1.toUInt32 >>> ((nI 2).toUInt32 &&& Int32.toUInt32 31)).toInt32) &&& (nI 858993459))
  let z_3 : Int32 := (z_2 + ((z_2.toUInt32 >>> ((nI 4).toUInt32 &&& Int32.toUInt32 31)).toInt32)) &&& (nI 252645135)
  let z_4 : Int32 := z_3 + ((z_3.toUInt32 >>> ((nI 8).toUInt32 &&& Int32.toUInt32 31)).toInt32)
  let z_5 : Int32 := z_4 + ((z_4.toUInt32 >>> ((nI 16).toUInt32 &&& Int32.toUInt32 31)).toInt32)
  some (some (vI (z_5 &&& (nI 63))), G) := (tgo 47 rfl sk_J6_bitCount_0f7a4 rfl).trans rfl
def st_J0_length_8abf5 : List (Nat × List Bool) := []
theorem sk_J0_length_8abf5 : ∀ pc bs, tstop st_J0_length_8abf5 pc = some bs → ∃ a, k_J0_length_8abf5 pc = some (aMk bs a) := tstop_ok (fun _ h => absurd h List.not_mem_nil)
set_option maxRecDepth 20000 in
theorem e_J0_length_8abf5 (o0 : Nat) (G : tH) : V_J0_length_8abf5 o0 G = tbI (V_J0_coder_7d493 o0 G) (fun r_2 G_1 => some (some (vI ((Int32.ofNat (tslen.getD o0 0)) >>> (r_2 &&& 31))), G_1)) := (tgo 12 rfl sk_J0_length_8abf5 rfl).trans rfl
def st_J0_charAt_5068e : List (Nat × List Bool) := []
theorem sk_J0_charAt_5068e : ∀ pc bs, tstop st_J0_charAt_5068e pc = some bs → ∃ a, k_J0_charAt_5068e pc = some (aMk bs a) := tstop_ok (fun _ h => absurd h List.not_mem_nil)
set_option maxRecDepth 20000 in
theorem e_J0_charAt_5068e (o0 : Nat) (x1 : Int32) (G : tH) : V_J0_charAt_5068e o0 x1 G = tbI (V_J0_isLatin1_aae02 o0 G) (fun r_2 G_1 => tif (r_2 = 0) (none)
  (tbI (V_J1_charAt_3b067 o0 x1 G_1) (fun r_4 G_3 => tif (vp_nar .char r_4 = r_4) (some (some (vI r_4), G_3)) none))) := (tgo 16 rfl sk_J0_charAt_5068e rfl).trans rfl
def st_J0_indexOf_0f7a4 : List (Nat × List Bool) := []
theorem sk_J0_indexOf_0f7a4 : ∀ pc bs, tstop st_J0_indexOf_0f7a4 pc = some bs → ∃ a, k_J0_indexOf_0f7a4 pc = some (aMk bs a) := tstop_ok (fun _ h => absurd h List.not_mem_nil)
set_option maxRecDepth 20000 in
theorem e_J0_indexOf_0f7a4 (o0 : Nat) (x1 : Int32) (G : tH) : V_J0_indexOf_0f7a4 o0 x1 G = tbI (V_J0_indexOf_7cf53 o0 x1 (nI 0) G) (fun r_2 G_1 => some (some (vI r_2), G_1)) := (tgo 10 rfl sk_J0_indexOf_0f7a4 rfl).trans rfl
def st_J0_indexOf_7cf53 : List (Nat × List Bool) := []
theorem sk_J0_indexOf_7cf53 : ∀ pc bs, tstop st_J0_indexOf_7cf53 pc = some bs → ∃ a, k_J0_indexOf_7cf53 pc = some (aMk bs a) := tstop_ok (fun _ h => absurd h List.not_mem_nil)
set_option maxRecDepth 20000 in
theorem e_J0_indexOf_7cf53 (o0 : Nat) (x1 : Int32) (x2 : Int32) (G : tH) : V_J0_indexOf_7cf53 o0 x1 x2 G = tbI (V_J0_isLatin1_aae02 o0 G) (fun r_2 G_1 => tif (r_2 = 0) (tbI (V_J0_length_8abf5 o0 G_1) (fun r_4 G_3 => none))
  (tbI (V_J0_length_8abf5 o0 G_1) (fun r_6 G_5 => tbI (V_J1_indexOf_4cfef o0 x1 x2 r_6 G_5) (fun r_8 G_7 => some (some (vI r_8), G_7))))) := (tgo 23 rfl sk_J0_indexOf_7cf53 rfl).trans rfl
def st_J0_coder_7d493 : List (Nat × List Bool) := []
theorem sk_J0_coder_7d493 : ∀ pc bs, tstop st_J0_coder_7d493 pc = some bs → ∃ a, k_J0_coder_7d493 pc = some (aMk bs a) := tstop_ok (fun _ h => absurd h List.not_mem_nil)
set_option maxRecDepth 20000 in
theorem e_J0_coder_7d493 (o0 : Nat) (G : tH) : V_J0_coder_7d493 o0 G = tif ((nI 1) = 0) (tif (vp_nar .byte (nI 1) = (nI 1)) (some (some (vI (nI 1)), G)) none)
  (tif (vp_nar .byte (nI 0) = (nI 0)) (some (some (vI (nI 0)), G)) none) := (tgo 12 rfl sk_J0_coder_7d493 rfl).trans rfl
def st_J0_isLatin1_aae02 : List (Nat × List Bool) := []
theorem sk_J0_isLatin1_aae02 : ∀ pc bs, tstop st_J0_isLatin1_aae02 pc = some bs → ∃ a, k_J0_isLatin1_aae02 pc = some (aMk bs a) := tstop_ok (fun _ h => absurd h List.not_mem_nil)
set_option maxRecDepth 20000 in
theorem e_J0_isLatin1_aae02 (o0 : Nat) (G : tH) : V_J0_isLatin1_aae02 o0 G = tif ((nI 1) = 0) (tif (vp_nar .boolean (nI 0) = (nI 0)) (some (some (vI (nI 0)), G)) none)
  (tif ((nI 0) = 0) (tif (vp_nar .boolean (nI 1) = (nI 1)) (some (some (vI (nI 1)), G)) none)
  (tif (vp_nar .boolean (nI 0) = (nI 0)) (some (some (vI (nI 0)), G)) none)) := (tgo 14 rfl sk_J0_isLatin1_aae02 rfl).trans rfl
def st_J0_checkIndex_df160 : List (Nat × List Bool) := []
theorem sk_J0_checkIndex_df160 : ∀ pc bs, tstop st_J0_checkIndex_df160 pc = some bs → ∃ a, k_J0_checkIndex_df160 pc = some (aMk bs a) := tstop_ok (fun _ h => absurd h List.not_mem_nil)
set_option maxRecDepth 20000 in
theorem e_J0_checkIndex_df160 (x0 : Int32) (x1 : Int32) (G : tH) : V_J0_checkIndex_df160 x0 x1 G = tif (x0 < 0) none (tif (x0 < x1) (some (none, G)) none) := (tgo 11 rfl sk_J0_checkIndex_df160 rfl).trans rfl
def st_J1_charAt_3b067 : List (Nat × List Bool) := []
theorem sk_J1_charAt_3b067 : ∀ pc bs, tstop st_J1_charAt_3b067 pc = some bs → ∃ a, k_J1_charAt_3b067 pc = some (aMk bs a) := tstop_ok (fun _ h => absurd h List.not_mem_nil)
set_option maxRecDepth 20000 in
theorem e_J1_charAt_3b067 (o0 : Nat) (x1 : Int32) (G : tH) : V_J1_charAt_3b067 o0 x1 G = tbV (V_J0_checkIndex_df160 x1 (Int32.ofNat (tslen.getD o0 0)) G) (fun G_1 => tif (tin x1 (tslen.getD o0 0)) (tif (vp_nar .char (((((tsbyt.getD o0 []).getD x1.toNatClampNeg 0) &&& (nI 255)).toUInt32 % 65536).toInt32) = (((((tsbyt.getD o0 []).getD x1.toNatClampNeg 0) &&& (nI 255)).toUInt32 % 65536).toInt32)) (some (some (vI (((((tsbyt.getD o0 []).getD x1.toNatClampNeg 0) &&& (nI 255)).toUInt32 % 65536).toInt32)), G_1)) none) none) := (tgo 16 rfl sk_J1_charAt_3b067 rfl).trans rfl
def st_J1_canEncode_9a6ad : List (Nat × List Bool) := []
theorem sk_J1_canEncode_9a6ad : ∀ pc bs, tstop st_J1_canEncode_9a6ad pc = some bs → ∃ a, k_J1_canEncode_9a6ad pc = some (aMk bs a) := tstop_ok (fun _ h => absurd h List.not_mem_nil)
set_option maxRecDepth 20000 in
theorem e_J1_canEncode_9a6ad (x0 : Int32) (G : tH) : V_J1_canEncode_9a6ad x0 G = tif (x0 < 0) (tif (vp_nar .boolean (nI 0) = (nI 0)) (some (some (vI (nI 0)), G)) none)
  (tif ((nI 255) < x0) (tif (vp_nar .boolean (nI 0) = (nI 0)) (some (some (vI (nI 0)), G)) none)
  (tif (vp_nar .boolean (nI 1) = (nI 1)) (some (some (vI (nI 1)), G)) none)) := (tgo 14 rfl sk_J1_canEncode_9a6ad rfl).trans rfl
def st_J1_indexOf_4cfef : List (Nat × List Bool) := []
theorem sk_J1_indexOf_4cfef : ∀ pc bs, tstop st_J1_indexOf_4cfef pc = some bs → ∃ a, k_J1_indexOf_4cfef pc = some (aMk bs a) := tstop_ok (fun _ h => absurd h List.not_mem_nil)
set_option maxRecDepth 20000 in
theorem e_J1_indexOf_4cfef (o0 : Nat) (x1 : Int32) (x2 : Int32) (x3 : Int32) (G : tH) : V_J1_indexOf_4cfef o0 x1 x2 x3 G = tbI (V_J1_canEncode_9a6ad x1 G) (fun r_2 G_1 => tif (r_2 = 0) (some (some (vI (-1 : Int32)), G_1))
  (let z_3 : Int32 := if (Int32.ofNat (tslen.getD o0 0)) < x3 then (Int32.ofNat (tslen.getD o0 0)) else x3
  tif ((if x2 < (nI 0) then (nI 0) else x2) < z_3) (tbI (V_J1_indexOfChar_4cfef o0 x1 (if x2 < (nI 0) then (nI 0) else x2) z_3 G_1) (fun r_5 G_4 => some (some (vI r_5), G_4)))
  (some (some (vI (-1 : Int32)), G_1)))) := (tgo 30 rfl sk_J1_indexOf_4cfef rfl).trans rfl
def st_J1_indexOfChar_4cfef : List (Nat × List Bool) := [(7, [true, false, false, true, true, true])]
theorem sk_J1_indexOfChar_4cfef : ∀ pc bs, tstop st_J1_indexOfChar_4cfef pc = some bs → ∃ a, k_J1_indexOfChar_4cfef pc = some (aMk bs a) := tstop_ok (List.forall_mem_cons.mpr ⟨⟨_, rfl⟩, fun _ h => absurd h List.not_mem_nil⟩)
set_option maxRecDepth 20000 in
theorem e_J1_indexOfChar_4cfef (o0 : Nat) (x1 : Int32) (x2 : Int32) (x3 : Int32) (G : tH) : V_J1_indexOfChar_4cfef o0 x1 x2 x3 G = V_J1_indexOfChar_4cfef_7 o0 x3 x1.toInt8.toInt32 x2 G := (tgo 24 rfl sk_J1_indexOfChar_4cfef rfl).trans rfl
set_option maxRecDepth 20000 in
theorem e_J1_indexOfChar_4cfef_7 (o0 : Nat) (x3 : Int32) (x4 : Int32) (x5 : Int32) (G : tH) : V_J1_indexOfChar_4cfef_7 o0 x3 x4 x5 G = tif (x5 < x3) (tif (tin x5 (tslen.getD o0 0)) (tif (((tsbyt.getD o0 []).getD x5.toNatClampNeg 0) = x4) (some (some (vI x5), G))
  (V_J1_indexOfChar_4cfef_7 o0 x3 x4 (x5 + (nI 1)) G)) none)
  (some (some (vI (-1 : Int32)), G)) := (tgo 24 rfl sk_J1_indexOfChar_4cfef rfl).trans rfl
def st_J3_checkIndex_8e157 : List (Nat × List Bool) := []
theorem sk_J3_checkIndex_8e157 : ∀ pc bs, tstop st_J3_checkIndex_8e157 pc = some bs → ∃ a, k_J3_checkIndex_8e157 pc = some (aMk bs a) := tstop_ok (fun _ h => absurd h List.not_mem_nil)
set_option maxRecDepth 20000 in
theorem e_J3_checkIndex_8e157 (x0 : Int32) (x1 : Int32) (G : tH) : V_J3_checkIndex_8e157 x0 x1 G = tif (x0 < 0) (none)
  (tif (x0 < x1) (some (some (vI x0), G))
  (none)) := (tgo 15 rfl sk_J3_checkIndex_8e157 rfl).trans rfl
