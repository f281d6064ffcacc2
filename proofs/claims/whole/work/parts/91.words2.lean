/-! words of the tables that the constructors need -/
theorem iz_Four : Cond.initialized RX8 ∈ zTS := zTS_of 1 (by decide +kernel) (by decide +kernel)
theorem iz_Cube : Cond.initialized RX1 ∈ zTS := zTS_of 2 (by decide +kernel) (by decide +kernel)
theorem iz_Law : Cond.initialized RX2 ∈ zTS := zTS_of 3 (by decide +kernel) (by decide +kernel)
theorem iz_Tower : Cond.initialized RX7 ∈ zTS := zTS_of 4 (by decide +kernel) (by decide +kernel)
theorem iz_Search : Cond.initialized RX5 ∈ zTS := zTS_of 5 (by decide +kernel) (by decide +kernel)
theorem iz_Rings : Cond.initialized RX4 ∈ zTS := zTS_of 6 (by decide +kernel) (by decide +kernel)
theorem iz_Past : Cond.initialized RX3 ∈ zTS := zTS_of 7 (by decide +kernel) (by decide +kernel)
theorem iz_Bodies : Cond.initialized RX0 ∈ zTS := zTS_of 8 (by decide +kernel) (by decide +kernel)
theorem iz_Shelf : Cond.initialized RX6 ∈ zTS := zTS_of 9 (by decide +kernel) (by decide +kernel)
theorem iz_Model : Cond.initialized RX9 ∈ zTS := zTS_of 10 (by decide +kernel) (by decide +kernel)
theorem cl_Law0_7 : Cond.classLink "FourCubesLaw" 7 RX8 ∈ zTS := zTS_of 15 (by decide +kernel) (by decide +kernel)
theorem it_Four : Cond.instantiable RX8 9 ∈ zTS := zTS_of 16 (by decide +kernel) (by decide +kernel)
theorem im_Four : Cond.instanceMethod M_Four_init.1 ∈ zTS := zTS_of 18 (by decide +kernel) (by decide +kernel)
theorem lo_Four : Cond.methodLink RX8 1 Lib.objectInit ∈ zTS := zTS_of 20 (by decide +kernel) (by decide +kernel)
theorem im_Object : Cond.instanceMethod Lib.objectInit ∈ zTS := zTS_of 21 (by decide +kernel) (by decide +kernel)
theorem co_Object : Cond.code Lib.objectInit ⟨#[0xb1]⟩ 1 none ∈ zTS := zTS_of 22 (by decide +kernel) (by decide +kernel)
theorem cl_Four_9 : Cond.classLink RX8 9 RX1 ∈ zTS := zTS_of 23 (by decide +kernel) (by decide +kernel)
theorem ao_Cube : Cond.arrayOver (.object RX1) ∈ tables_1 := List.mem_of_getElem? (i := 24) (by decide +kernel)
theorem it_Cube : Cond.instantiable RX1 2 ∈ zTS := zTS_of 25 (by decide +kernel) (by decide +kernel)
theorem ln_Four_15 : Cond.methodLinkNest RX8 15 M_Cube_init.1 RX8 ∈ zTS := zTS_of 26 (by decide +kernel) (by decide +kernel)
theorem im_Cube : Cond.instanceMethod M_Cube_init.1 ∈ zTS := zTS_of 27 (by decide +kernel) (by decide +kernel)
theorem lo_Cube : Cond.methodLink RX1 3 Lib.objectInit ∈ zTS := zTS_of 29 (by decide +kernel) (by decide +kernel)
theorem ac_int : Cond.arrayClass .int ∈ zTS := zTS_of 41 (by decide +kernel) (by decide +kernel)
theorem cl_Four_16 : Cond.classLink RX8 16 RX2 ∈ zTS := zTS_of 42 (by decide +kernel) (by decide +kernel)
theorem it_Law : Cond.instantiable RX2 12 ∈ zTS := zTS_of 43 (by decide +kernel) (by decide +kernel)
theorem im_Law : Cond.instanceMethod M_Law_init.1 ∈ zTS := zTS_of 45 (by decide +kernel) (by decide +kernel)
theorem lo_Law : Cond.methodLink RX2 3 Lib.objectInit ∈ zTS := zTS_of 47 (by decide +kernel) (by decide +kernel)
theorem ac_boolean : Cond.arrayClass .boolean ∈ zTS := zTS_of 111 (by decide +kernel) (by decide +kernel)
theorem cl_Four_23 : Cond.classLink RX8 23 RX7 ∈ zTS := zTS_of 112 (by decide +kernel) (by decide +kernel)
theorem it_Tower : Cond.instantiable RX7 13 ∈ zTS := zTS_of 113 (by decide +kernel) (by decide +kernel)
theorem cl_Four_25 : Cond.classLink RX8 25 RX5 ∈ zTS := zTS_of 114 (by decide +kernel) (by decide +kernel)
theorem it_Search : Cond.instantiable RX5 4 ∈ zTS := zTS_of 115 (by decide +kernel) (by decide +kernel)
theorem ln_Four_27 : Cond.methodLinkNest RX8 27 M_Search_init.1 RX8 ∈ zTS := zTS_of 116 (by decide +kernel) (by decide +kernel)
theorem im_Search : Cond.instanceMethod M_Search_init.1 ∈ zTS := zTS_of 117 (by decide +kernel) (by decide +kernel)
theorem lo_Search : Cond.methodLink RX5 3 Lib.objectInit ∈ zTS := zTS_of 119 (by decide +kernel) (by decide +kernel)
theorem im_Tower : Cond.instanceMethod M_Tower_init.1 ∈ zTS := zTS_of 138 (by decide +kernel) (by decide +kernel)
theorem lo_Tower : Cond.methodLink RX7 3 Lib.objectInit ∈ zTS := zTS_of 140 (by decide +kernel) (by decide +kernel)
theorem cl_Tower_9 : Cond.classLink RX7 9 RX1 ∈ zTS := zTS_of 141 (by decide +kernel) (by decide +kernel)
theorem ac_byte : Cond.arrayClass .byte ∈ zTS := zTS_of 187 (by decide +kernel) (by decide +kernel)
theorem cl_Four_35 : Cond.classLink RX8 35 RX4 ∈ zTS := zTS_of 188 (by decide +kernel) (by decide +kernel)
theorem it_Rings : Cond.instantiable RX4 4 ∈ zTS := zTS_of 189 (by decide +kernel) (by decide +kernel)
theorem ln_Four_37 : Cond.methodLinkNest RX8 37 M_Rings_init.1 RX8 ∈ zTS := zTS_of 190 (by decide +kernel) (by decide +kernel)
theorem im_Rings : Cond.instanceMethod M_Rings_init.1 ∈ zTS := zTS_of 191 (by decide +kernel) (by decide +kernel)
theorem lo_Rings : Cond.methodLink RX4 3 Lib.objectInit ∈ zTS := zTS_of 193 (by decide +kernel) (by decide +kernel)
theorem cl_Four_42 : Cond.classLink RX8 42 RX3 ∈ zTS := zTS_of 208 (by decide +kernel) (by decide +kernel)
theorem it_Past : Cond.instantiable RX3 5 ∈ zTS := zTS_of 209 (by decide +kernel) (by decide +kernel)
theorem ln_Four_44 : Cond.methodLinkNest RX8 44 M_Past_init.1 RX8 ∈ zTS := zTS_of 210 (by decide +kernel) (by decide +kernel)
theorem im_Past : Cond.instanceMethod M_Past_init.1 ∈ zTS := zTS_of 211 (by decide +kernel) (by decide +kernel)
theorem lo_Past : Cond.methodLink RX3 1 Lib.objectInit ∈ zTS := zTS_of 213 (by decide +kernel) (by decide +kernel)
theorem cl_Four_49 : Cond.classLink RX8 49 RX0 ∈ zTS := zTS_of 235 (by decide +kernel) (by decide +kernel)
theorem it_Bodies : Cond.instantiable RX0 5 ∈ zTS := zTS_of 236 (by decide +kernel) (by decide +kernel)
theorem ln_Four_51 : Cond.methodLinkNest RX8 51 M_Bodies_init.1 RX8 ∈ zTS := zTS_of 237 (by decide +kernel) (by decide +kernel)
theorem im_Bodies : Cond.instanceMethod M_Bodies_init.1 ∈ zTS := zTS_of 238 (by decide +kernel) (by decide +kernel)
theorem lo_Bodies : Cond.methodLink RX0 3 Lib.objectInit ∈ zTS := zTS_of 240 (by decide +kernel) (by decide +kernel)
theorem cl_Four_56 : Cond.classLink RX8 56 RX6 ∈ zTS := zTS_of 260 (by decide +kernel) (by decide +kernel)
theorem ao_Shelf : Cond.arrayOver (.object RX6) ∈ tables_1 := List.mem_of_getElem? (i := 261) (by decide +kernel)
theorem it_Shelf : Cond.instantiable RX6 5 ∈ zTS := zTS_of 262 (by decide +kernel) (by decide +kernel)
theorem ln_Four_62 : Cond.methodLinkNest RX8 62 M_Shelf_init.1 RX8 ∈ zTS := zTS_of 263 (by decide +kernel) (by decide +kernel)
theorem im_Shelf : Cond.instanceMethod M_Shelf_init.1 ∈ zTS := zTS_of 264 (by decide +kernel) (by decide +kernel)
theorem lo_Shelf : Cond.methodLink RX6 3 Lib.objectInit ∈ zTS := zTS_of 266 (by decide +kernel) (by decide +kernel)
theorem ac_long : Cond.arrayClass .long ∈ zTS := zTS_of 287 (by decide +kernel) (by decide +kernel)
theorem cl_Law0_10 : Cond.classLink "FourCubesLaw" 10 RX9 ∈ zTS := zTS_of 833 (by decide +kernel) (by decide +kernel)
theorem it_Model : Cond.instantiable RX9 45 ∈ zTS := zTS_of 834 (by decide +kernel) (by decide +kernel)
theorem im_Model : Cond.instanceMethod M_Model_init.1 ∈ zTS := zTS_of 836 (by decide +kernel) (by decide +kernel)
theorem lo_Model : Cond.methodLink RX9 1 Lib.objectInit ∈ zTS := zTS_of 838 (by decide +kernel) (by decide +kernel)
theorem ac_short : Cond.arrayClass .short ∈ zTS := zTS_of 974 (by decide +kernel) (by decide +kernel)
def fsBodies : List Value := [.null, .int 0, .null, .int 0, .int 0]
theorem fsBodies_ok : ∀ j, j < 5 → defaultValue (tyX0 j) = vp_V [.null, .int 0, .null, .int 0, .int 0] j := by decide +kernel
def fsCube : List Value := [.null, .int 0]
theorem fsCube_ok : ∀ j, j < 2 → defaultValue (tyX1 j) = vp_V [.null, .int 0] j := by decide +kernel
def fsLaw : List Value := [.null, .int 0, .int 0, .null, .int 0, .null, .int 0, .int 0, .int 0, .int 0, .int 0, .null]
theorem fsLaw_ok : ∀ j, j < 12 → defaultValue (tyX2 j) = vp_V [.null, .int 0, .int 0, .null, .int 0, .null, .int 0, .int 0, .int 0, .int 0, .int 0, .null] j := by decide +kernel
def fsPast : List Value := [.null, .null, .null, .int 0, .int 0]
theorem fsPast_ok : ∀ j, j < 5 → defaultValue (tyX3 j) = vp_V [.null, .null, .null, .int 0, .int 0] j := by decide +kernel
def fsRings : List Value := [.null, .null, .int 0, .int 0]
theorem fsRings_ok : ∀ j, j < 4 → defaultValue (tyX4 j) = vp_V [.null, .null, .int 0, .int 0] j := by decide +kernel
def fsSearch : List Value := [.int 0, .null, .null, .null]
theorem fsSearch_ok : ∀ j, j < 4 → defaultValue (tyX5 j) = vp_V [.int 0, .null, .null, .null] j := by decide +kernel
def fsShelf : List Value := [.int 0, .int 0, .int 0, .int 0, .null]
theorem fsShelf_ok : ∀ j, j < 5 → defaultValue (tyX6 j) = vp_V [.int 0, .int 0, .int 0, .int 0, .null] j := by decide +kernel
def fsTower : List Value := [.null, .null, .null, .null, .null, .int 0, .null, .null, .null, .null, .int 0, .int 0, .int 0]
theorem fsTower_ok : ∀ j, j < 13 → defaultValue (tyX7 j) = vp_V [.null, .null, .null, .null, .null, .int 0, .null, .null, .null, .null, .int 0, .int 0, .int 0] j := by decide +kernel
def fsFour : List Value := [.null, .int 0, .int 0, .null, .null, .null, .null, .null, .null]
theorem fsFour_ok : ∀ j, j < 9 → defaultValue (tyX8 j) = vp_V [.null, .int 0, .int 0, .null, .null, .null, .null, .null, .null] j := by decide +kernel
def fsModel : List Value := [.int 0, .int 0, .null, .null, .int 0, .null, .int 0, .int 0, .null, .null, .null, .null, .null, .int 0, .int 0, .int 0, .int 0, .int 0, .null, .null, .null, .null, .null, .null, .null, .int 0, .null, .null, .int 0, .null, .null, .int 0, .int 0, .int 0, .int 0, .null, .null, .int 0, .null, .int 0, .null, .null, .null, .null, .null]
theorem fsModel_ok : ∀ j, j < 45 → defaultValue (tyX9 j) = vp_V [.int 0, .int 0, .null, .null, .int 0, .null, .int 0, .int 0, .null, .null, .null, .null, .null, .int 0, .int 0, .int 0, .int 0, .int 0, .null, .null, .null, .null, .null, .null, .null, .int 0, .null, .null, .int 0, .null, .null, .int 0, .int 0, .int 0, .int 0, .null, .null, .int 0, .null, .int 0, .null, .null, .null, .null, .null] j := by decide +kernel
