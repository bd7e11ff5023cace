/-! each method's facts in the tables -/
theorem zFit_of {lev maxL lev' : Nat} (h : lev' < lev) (hm : maxL ≤ 21) : zFit (zRm lev) 0 0 maxL lev' := ⟨h, by show 8 + (maxL + 11) + 40 * lev' ≤ 40 * lev; omega, Nat.le_refl _, Nat.le_refl _⟩
theorem zm_X0_init : zMe yX0_init cX0_init 1 (Option.none : Option Jvm.ClassFile.FieldType) 0 := ⟨zw57, zw4, ⟨by decide +kernel, by decide +kernel⟩, by decide +kernel, by decide +kernel⟩
theorem zm_X0_find : zMe yX0_find cX0_find 9 (Option.none : Option Jvm.ClassFile.FieldType) 2 := ⟨zw430, zw4, ⟨by decide +kernel, by decide +kernel⟩, by decide +kernel, by decide +kernel⟩
theorem zm_X0_findContents : zMe yX0_findContents cX0_findContents 3 (Option.none : Option Jvm.ClassFile.FieldType) 2 := ⟨zw485, zw4, ⟨by decide +kernel, by decide +kernel⟩, by decide +kernel, by decide +kernel⟩
theorem zm_X0_contentOf : zMe yX0_contentOf cX0_contentOf 4 (Option.none : Option Jvm.ClassFile.FieldType) 2 := ⟨zw489, zw4, ⟨by decide +kernel, by decide +kernel⟩, by decide +kernel, by decide +kernel⟩
theorem zm_X0_leadOf : zMe yX0_leadOf cX0_leadOf 4 (Option.none : Option Jvm.ClassFile.FieldType) 3 := ⟨zw504, zw4, ⟨by decide +kernel, by decide +kernel⟩, by decide +kernel, by decide +kernel⟩
theorem zm_X0_findImage : zMe yX0_findImage cX0_findImage 4 (Option.some Jvm.ClassFile.FieldType.boolean) 3 := ⟨zw511, zw4, ⟨by decide +kernel, by decide +kernel⟩, by decide +kernel, by decide +kernel⟩
theorem zm_X0_imageOf : zMe yX0_imageOf cX0_imageOf 4 (Option.none : Option Jvm.ClassFile.FieldType) 3 := ⟨zw514, zw4, ⟨by decide +kernel, by decide +kernel⟩, by decide +kernel, by decide +kernel⟩
theorem zm_X0_takeIn : zMe yX0_takeIn cX0_takeIn 8 (Option.some Jvm.ClassFile.FieldType.boolean) 1 := ⟨zw523, zw4, ⟨by decide +kernel, by decide +kernel⟩, by decide +kernel, by decide +kernel⟩
theorem zm_X0_tryPieced : zMe yX0_tryPieced cX0_tryPieced 5 (Option.some Jvm.ClassFile.FieldType.boolean) 2 := ⟨zw533, zw4, ⟨by decide +kernel, by decide +kernel⟩, by decide +kernel, by decide +kernel⟩
theorem zm_X0_divideBoth : zMe yX0_divideBoth cX0_divideBoth 3 (Option.some Jvm.ClassFile.FieldType.boolean) 2 := ⟨zw459, zw4, ⟨by decide +kernel, by decide +kernel⟩, by decide +kernel, by decide +kernel⟩
theorem zm_X0_divide : zMe yX0_divide cX0_divide 7 (Option.some Jvm.ClassFile.FieldType.boolean) 2 := ⟨zw463, zw4, ⟨by decide +kernel, by decide +kernel⟩, by decide +kernel, by decide +kernel⟩
theorem zm_X1_init : zMe yX1_init cX1_init 1 (Option.none : Option Jvm.ClassFile.FieldType) 0 := ⟨zw28, zw2, ⟨by decide +kernel, by decide +kernel⟩, by decide +kernel, by decide +kernel⟩
theorem zm_X1_get : zMe yX1_get cX1_get 2 (Option.some Jvm.ClassFile.FieldType.int) 1 := ⟨zw303, zw2, ⟨by decide +kernel, by decide +kernel⟩, by decide +kernel, by decide +kernel⟩
theorem zm_X1_put : zMe yX1_put cX1_put 4 (Option.none : Option Jvm.ClassFile.FieldType) 2 := ⟨zw119, zw2, ⟨by decide +kernel, by decide +kernel⟩, by decide +kernel, by decide +kernel⟩
theorem zm_X1_clear : zMe yX1_clear cX1_clear 2 (Option.none : Option Jvm.ClassFile.FieldType) 0 := ⟨zw292, zw2, ⟨by decide +kernel, by decide +kernel⟩, by decide +kernel, by decide +kernel⟩
theorem zm_X1_copyOf : zMe yX1_copyOf cX1_copyOf 4 (Option.none : Option Jvm.ClassFile.FieldType) 1 := ⟨zw439, zw2, ⟨by decide +kernel, by decide +kernel⟩, by decide +kernel, by decide +kernel⟩
theorem zm_X1_valueAt : zMe yX1_valueAt cX1_valueAt 4 (Option.some Jvm.ClassFile.FieldType.int) 1 := ⟨zw518, zw2, ⟨by decide +kernel, by decide +kernel⟩, by decide +kernel, by decide +kernel⟩
theorem zm_X1_scale : zMe yX1_scale cX1_scale 3 (Option.none : Option Jvm.ClassFile.FieldType) 1 := ⟨zw454, zw2, ⟨by decide +kernel, by decide +kernel⟩, by decide +kernel, by decide +kernel⟩
theorem zm_X1_plusShifted : zMe yX1_plusShifted cX1_plusShifted 7 (Option.none : Option Jvm.ClassFile.FieldType) 3 := ⟨zw404, zw2, ⟨by decide +kernel, by decide +kernel⟩, by decide +kernel, by decide +kernel⟩
theorem zm_X1_plusProduct : zMe yX1_plusProduct cX1_plusProduct 6 (Option.none : Option Jvm.ClassFile.FieldType) 3 := ⟨zw408, zw2, ⟨by decide +kernel, by decide +kernel⟩, by decide +kernel, by decide +kernel⟩
theorem zm_X1_plusSlopeProduct : zMe yX1_plusSlopeProduct cX1_plusSlopeProduct 5 (Option.none : Option Jvm.ClassFile.FieldType) 2 := ⟨zw399, zw2, ⟨by decide +kernel, by decide +kernel⟩, by decide +kernel, by decide +kernel⟩
theorem zm_X1_timesRoot : zMe yX1_timesRoot cX1_timesRoot 3 (Option.none : Option Jvm.ClassFile.FieldType) 1 := ⟨zw529, zw2, ⟨by decide +kernel, by decide +kernel⟩, by decide +kernel, by decide +kernel⟩
theorem zm_X1_divideBy : zMe yX1_divideBy cX1_divideBy 6 (Option.none : Option Jvm.ClassFile.FieldType) 2 := ⟨zw477, zw2, ⟨by decide +kernel, by decide +kernel⟩, by decide +kernel, by decide +kernel⟩
theorem zm_X1_meet : zMe yX1_meet cX1_meet 4 (Option.none : Option Jvm.ClassFile.FieldType) 2 := ⟨zw494, zw2, ⟨by decide +kernel, by decide +kernel⟩, by decide +kernel, by decide +kernel⟩
theorem zm_X1_exchange : zMe yX1_exchange cX1_exchange 4 (Option.none : Option Jvm.ClassFile.FieldType) 1 := ⟨zw499, zw2, ⟨by decide +kernel, by decide +kernel⟩, by decide +kernel, by decide +kernel⟩
theorem zm_X2_init : zMe yX2_init cX2_init 2 (Option.none : Option Jvm.ClassFile.FieldType) 0 := ⟨zw44, zw3, ⟨by decide +kernel, by decide +kernel⟩, by decide +kernel, by decide +kernel⟩
theorem zm_X2_row : zMe yX2_row cX2_row 2 (Option.some (Jvm.ClassFile.FieldType.object "TowerFields$Line")) 1 := ⟨zw115, zw3, ⟨by decide +kernel, by decide +kernel⟩, by decide +kernel, by decide +kernel⟩
theorem zm_X2_clear : zMe yX2_clear cX2_clear 2 (Option.none : Option Jvm.ClassFile.FieldType) 0 := ⟨zw288, zw3, ⟨by decide +kernel, by decide +kernel⟩, by decide +kernel, by decide +kernel⟩
theorem zm_X2_copyOf : zMe yX2_copyOf cX2_copyOf 3 (Option.none : Option Jvm.ClassFile.FieldType) 1 := ⟨zw435, zw3, ⟨by decide +kernel, by decide +kernel⟩, by decide +kernel, by decide +kernel⟩
theorem zm_X2_isZero : zMe yX2_isZero cX2_isZero 1 (Option.some Jvm.ClassFile.FieldType.boolean) 0 := ⟨zw421, zw3, ⟨by decide +kernel, by decide +kernel⟩, by decide +kernel, by decide +kernel⟩
theorem zm_X2_powerT : zMe yX2_powerT cX2_powerT 2 (Option.some Jvm.ClassFile.FieldType.int) 0 := ⟨zw416, zw3, ⟨by decide +kernel, by decide +kernel⟩, by decide +kernel, by decide +kernel⟩
theorem zm_X2_powerX : zMe yX2_powerX cX2_powerX 3 (Option.some Jvm.ClassFile.FieldType.int) 0 := ⟨zw469, zw3, ⟨by decide +kernel, by decide +kernel⟩, by decide +kernel, by decide +kernel⟩
theorem zm_X2_head : zMe yX2_head cX2_head 2 (Option.some Jvm.ClassFile.FieldType.int) 0 := ⟨zw443, zw3, ⟨by decide +kernel, by decide +kernel⟩, by decide +kernel, by decide +kernel⟩
theorem zm_X2_scale : zMe yX2_scale cX2_scale 3 (Option.none : Option Jvm.ClassFile.FieldType) 1 := ⟨zw450, zw3, ⟨by decide +kernel, by decide +kernel⟩, by decide +kernel, by decide +kernel⟩
theorem zm_X2_plusProduct : zMe yX2_plusProduct cX2_plusProduct 8 (Option.none : Option Jvm.ClassFile.FieldType) 3 := ⟨zw412, zw3, ⟨by decide +kernel, by decide +kernel⟩, by decide +kernel, by decide +kernel⟩
theorem zm_X3_init : zMe yX3_init cX3_init 1 (Option.none : Option Jvm.ClassFile.FieldType) 0 := ⟨zw20, zw1, ⟨by decide +kernel, by decide +kernel⟩, by decide +kernel, by decide +kernel⟩
theorem zm_X3_number : zMe yX3_number cX3_number 6 (Option.some Jvm.ClassFile.FieldType.int) 2 := ⟨zw250, zw1, ⟨by decide +kernel, by decide +kernel⟩, by decide +kernel, by decide +kernel⟩
theorem zm_X3_base : zMe yX3_base cX3_base 1 (Option.some Jvm.ClassFile.FieldType.int) 0 := ⟨zw314, zw1, ⟨by decide +kernel, by decide +kernel⟩, by decide +kernel, by decide +kernel⟩
theorem zm_X3_letter : zMe yX3_letter cX3_letter 3 (Option.some Jvm.ClassFile.FieldType.int) 2 := ⟨zw341, zw1, ⟨by decide +kernel, by decide +kernel⟩, by decide +kernel, by decide +kernel⟩
theorem zm_X3_top : zMe yX3_top cX3_top 1 (Option.some Jvm.ClassFile.FieldType.int) 0 := ⟨zw541, zw1, ⟨by decide +kernel, by decide +kernel⟩, by decide +kernel, by decide +kernel⟩
theorem zm_X3_add : zMe yX3_add cX3_add 3 (Option.some Jvm.ClassFile.FieldType.int) 2 := ⟨zw549, zw1, ⟨by decide +kernel, by decide +kernel⟩, by decide +kernel, by decide +kernel⟩
theorem zm_X3_less : zMe yX3_less cX3_less 3 (Option.some Jvm.ClassFile.FieldType.int) 2 := ⟨zw576, zw1, ⟨by decide +kernel, by decide +kernel⟩, by decide +kernel, by decide +kernel⟩
theorem zm_X3_times : zMe yX3_times cX3_times 3 (Option.some Jvm.ClassFile.FieldType.int) 2 := ⟨zw583, zw1, ⟨by decide +kernel, by decide +kernel⟩, by decide +kernel, by decide +kernel⟩
theorem zm_X3_over : zMe yX3_over cX3_over 3 (Option.some Jvm.ClassFile.FieldType.int) 2 := ⟨zw590, zw1, ⟨by decide +kernel, by decide +kernel⟩, by decide +kernel, by decide +kernel⟩
theorem zm_X3_derive : zMe yX3_derive cX3_derive 2 (Option.some Jvm.ClassFile.FieldType.int) 1 := ⟨zw597, zw1, ⟨by decide +kernel, by decide +kernel⟩, by decide +kernel, by decide +kernel⟩
theorem zm_X3_logarithmic : zMe yX3_logarithmic cX3_logarithmic 2 (Option.some Jvm.ClassFile.FieldType.int) 1 := ⟨zw608, zw1, ⟨by decide +kernel, by decide +kernel⟩, by decide +kernel, by decide +kernel⟩
theorem zm_X3_part : zMe yX3_part cX3_part 3 (Option.some Jvm.ClassFile.FieldType.int) 2 := ⟨zw615, zw1, ⟨by decide +kernel, by decide +kernel⟩, by decide +kernel, by decide +kernel⟩
theorem zm_X3_common : zMe yX3_common cX3_common 3 (Option.some Jvm.ClassFile.FieldType.int) 2 := ⟨zw633, zw1, ⟨by decide +kernel, by decide +kernel⟩, by decide +kernel, by decide +kernel⟩
theorem zm_X3_same : zMe yX3_same cX3_same 4 (Option.some Jvm.ClassFile.FieldType.boolean) 2 := ⟨zw640, zw1, ⟨by decide +kernel, by decide +kernel⟩, by decide +kernel, by decide +kernel⟩
theorem zm_X3_constant : zMe yX3_constant cX3_constant 2 (Option.some Jvm.ClassFile.FieldType.boolean) 1 := ⟨zw647, zw1, ⟨by decide +kernel, by decide +kernel⟩, by decide +kernel, by decide +kernel⟩
theorem zm_X3_low : zMe yX3_low cX3_low 4 (Option.some Jvm.ClassFile.FieldType.boolean) 1 := ⟨zw654, zw1, ⟨by decide +kernel, by decide +kernel⟩, by decide +kernel, by decide +kernel⟩
theorem zm_X3_at : zMe yX3_at cX3_at 5 (Option.some Jvm.ClassFile.FieldType.int) 4 := ⟨zw661, zw1, ⟨by decide +kernel, by decide +kernel⟩, by decide +kernel, by decide +kernel⟩
theorem zm_X3_count : zMe yX3_count cX3_count 1 (Option.some Jvm.ClassFile.FieldType.int) 0 := ⟨zw169, zw1, ⟨by decide +kernel, by decide +kernel⟩, by decide +kernel, by decide +kernel⟩
theorem zm_X3_requireElement : zMe yX3_requireElement cX3_requireElement 2 (Option.none : Option Jvm.ClassFile.FieldType) 1 := ⟨zw345, zw1, ⟨by decide +kernel, by decide +kernel⟩, by decide +kernel, by decide +kernel⟩
theorem zm_X3_requireRoom : zMe yX3_requireRoom cX3_requireRoom 1 (Option.none : Option Jvm.ClassFile.FieldType) 0 := ⟨zw254, zw1, ⟨by decide +kernel, by decide +kernel⟩, by decide +kernel, by decide +kernel⟩
theorem zm_X3_place : zMe yX3_place cX3_place 4 (Option.some Jvm.ClassFile.FieldType.int) 4 := ⟨zw299, zw1, ⟨by decide +kernel, by decide +kernel⟩, by decide +kernel, by decide +kernel⟩
theorem zm_X3_stored : zMe yX3_stored cX3_stored 2 (Option.some Jvm.ClassFile.FieldType.int) 1 := ⟨zw391, zw1, ⟨by decide +kernel, by decide +kernel⟩, by decide +kernel, by decide +kernel⟩
theorem zm_X3_store : zMe yX3_store cX3_store 3 (Option.none : Option Jvm.ClassFile.FieldType) 2 := ⟨zw307, zw1, ⟨by decide +kernel, by decide +kernel⟩, by decide +kernel, by decide +kernel⟩
theorem zm_X3_load : zMe yX3_load cX3_load 7 (Option.none : Option Jvm.ClassFile.FieldType) 3 := ⟨zw387, zw1, ⟨by decide +kernel, by decide +kernel⟩, by decide +kernel, by decide +kernel⟩
theorem zm_X3_takeTwo : zMe yX3_takeTwo cX3_takeTwo 3 (Option.none : Option Jvm.ClassFile.FieldType) 2 := ⟨zw553, zw1, ⟨by decide +kernel, by decide +kernel⟩, by decide +kernel, by decide +kernel⟩
theorem zm_X3_sumUp : zMe yX3_sumUp cX3_sumUp 2 (Option.none : Option Jvm.ClassFile.FieldType) 1 := ⟨zw557, zw1, ⟨by decide +kernel, by decide +kernel⟩, by decide +kernel, by decide +kernel⟩
theorem zm_X3_keepSingle : zMe yX3_keepSingle cX3_keepSingle 4 (Option.some Jvm.ClassFile.FieldType.int) 3 := ⟨zw284, zw1, ⟨by decide +kernel, by decide +kernel⟩, by decide +kernel, by decide +kernel⟩
theorem zm_X3_keepLowest : zMe yX3_keepLowest cX3_keepLowest 4 (Option.some Jvm.ClassFile.FieldType.int) 0 := ⟨zw561, zw1, ⟨by decide +kernel, by decide +kernel⟩, by decide +kernel, by decide +kernel⟩
theorem zm_X3_isTooGreat : zMe yX3_isTooGreat cX3_isTooGreat 1 (Option.some Jvm.ClassFile.FieldType.boolean) 1 := ⟨zw566, zw1, ⟨by decide +kernel, by decide +kernel⟩, by decide +kernel, by decide +kernel⟩
theorem zm_X3_keep : zMe yX3_keep cX3_keep 5 (Option.some Jvm.ClassFile.FieldType.int) 2 := ⟨zw296, zw1, ⟨by decide +kernel, by decide +kernel⟩, by decide +kernel, by decide +kernel⟩
theorem zm_X3_hasNoSlope : zMe yX3_hasNoSlope cX3_hasNoSlope 2 (Option.some Jvm.ClassFile.FieldType.boolean) 1 := ⟨zw379, zw1, ⟨by decide +kernel, by decide +kernel⟩, by decide +kernel, by decide +kernel⟩
theorem zm_X3_slopeOfFraction : zMe yX3_slopeOfFraction cX3_slopeOfFraction 2 (Option.none : Option Jvm.ClassFile.FieldType) 1 := ⟨zw383, zw1, ⟨by decide +kernel, by decide +kernel⟩, by decide +kernel, by decide +kernel⟩
theorem zm_X3_slopeOfPoly : zMe yX3_slopeOfPoly cX3_slopeOfPoly 6 (Option.none : Option Jvm.ClassFile.FieldType) 2 := ⟨zw395, zw1, ⟨by decide +kernel, by decide +kernel⟩, by decide +kernel, by decide +kernel⟩
theorem zm_X3_slopeOverProduct : zMe yX3_slopeOverProduct cX3_slopeOverProduct 4 (Option.none : Option Jvm.ClassFile.FieldType) 2 := ⟨zw601, zw1, ⟨by decide +kernel, by decide +kernel⟩, by decide +kernel, by decide +kernel⟩
theorem zm_X3_setSlope : zMe yX3_setSlope cX3_setSlope 2 (Option.none : Option Jvm.ClassFile.FieldType) 1 := ⟨zw426, zw1, ⟨by decide +kernel, by decide +kernel⟩, by decide +kernel, by decide +kernel⟩
theorem zm_X3_makeSquareFree : zMe yX3_makeSquareFree cX3_makeSquareFree 3 (Option.none : Option Jvm.ClassFile.FieldType) 1 := ⟨zw620, zw1, ⟨by decide +kernel, by decide +kernel⟩, by decide +kernel, by decide +kernel⟩
theorem zm_X3_splitSquareFree : zMe yX3_splitSquareFree cX3_splitSquareFree 3 (Option.none : Option Jvm.ClassFile.FieldType) 2 := ⟨zw626, zw1, ⟨by decide +kernel, by decide +kernel⟩, by decide +kernel, by decide +kernel⟩
theorem zm_X3_residue : zMe yX3_residue cX3_residue 4 (Option.some Jvm.ClassFile.FieldType.int) 1 := ⟨zw273, zw1, ⟨by decide +kernel, by decide +kernel⟩, by decide +kernel, by decide +kernel⟩
theorem zm_X3_inverse : zMe yX3_inverse cX3_inverse 4 (Option.some Jvm.ClassFile.FieldType.int) 1 := ⟨zw280, zw1, ⟨by decide +kernel, by decide +kernel⟩, by decide +kernel, by decide +kernel⟩
theorem zm_X4_init : zMe yX4_init cX4_init 1 (Option.none : Option Jvm.ClassFile.FieldType) 0 := ⟨zw668, zw5, ⟨by decide +kernel, by decide +kernel⟩, by decide +kernel, by decide +kernel⟩
theorem zm_X4_thrown : zMe yX4_thrown cX4_thrown 1 (Option.some Jvm.ClassFile.FieldType.int) 0 := ⟨zw738, zw5, ⟨by decide +kernel, by decide +kernel⟩, by decide +kernel, by decide +kernel⟩
theorem zm_X4_raise : zMe yX4_raise cX4_raise 2 (Option.some Jvm.ClassFile.FieldType.int) 1 := ⟨zw784, zw5, ⟨by decide +kernel, by decide +kernel⟩, by decide +kernel, by decide +kernel⟩
theorem zm_X4_modulo : zMe yX4_modulo cX4_modulo 4 (Option.some Jvm.ClassFile.FieldType.int) 1 := ⟨zw745, zw5, ⟨by decide +kernel, by decide +kernel⟩, by decide +kernel, by decide +kernel⟩
theorem zm_X4_inverse : zMe yX4_inverse cX4_inverse 6 (Option.some Jvm.ClassFile.FieldType.int) 1 := ⟨zw756, zw5, ⟨by decide +kernel, by decide +kernel⟩, by decide +kernel, by decide +kernel⟩
theorem zm_X4_clear : zMe yX4_clear cX4_clear 2 (Option.none : Option Jvm.ClassFile.FieldType) 1 := ⟨zw749, zw5, ⟨by decide +kernel, by decide +kernel⟩, by decide +kernel, by decide +kernel⟩
theorem zm_X4_copy : zMe yX4_copy cX4_copy 3 (Option.none : Option Jvm.ClassFile.FieldType) 2 := ⟨zw807, zw5, ⟨by decide +kernel, by decide +kernel⟩, by decide +kernel, by decide +kernel⟩
theorem zm_X4_isNone : zMe yX4_isNone cX4_isNone 3 (Option.some Jvm.ClassFile.FieldType.boolean) 1 := ⟨zw804, zw5, ⟨by decide +kernel, by decide +kernel⟩, by decide +kernel, by decide +kernel⟩
theorem zm_X4_head : zMe yX4_head cX4_head 3 (Option.some Jvm.ClassFile.FieldType.int) 2 := ⟨zw798, zw5, ⟨by decide +kernel, by decide +kernel⟩, by decide +kernel, by decide +kernel⟩
theorem zm_X4_load : zMe yX4_load cX4_load 5 (Option.none : Option Jvm.ClassFile.FieldType) 3 := ⟨zw788, zw5, ⟨by decide +kernel, by decide +kernel⟩, by decide +kernel, by decide +kernel⟩
theorem zm_X4_multiply : zMe yX4_multiply cX4_multiply 7 (Option.none : Option Jvm.ClassFile.FieldType) 3 := ⟨zw795, zw5, ⟨by decide +kernel, by decide +kernel⟩, by decide +kernel, by decide +kernel⟩
theorem zm_X4_plus : zMe yX4_plus cX4_plus 4 (Option.none : Option Jvm.ClassFile.FieldType) 3 := ⟨zw801, zw5, ⟨by decide +kernel, by decide +kernel⟩, by decide +kernel, by decide +kernel⟩
theorem zm_X4_slope : zMe yX4_slope cX4_slope 5 (Option.none : Option Jvm.ClassFile.FieldType) 3 := ⟨zw791, zw5, ⟨by decide +kernel, by decide +kernel⟩, by decide +kernel, by decide +kernel⟩
theorem zm_X4_reduce : zMe yX4_reduce cX4_reduce 3 (Option.some Jvm.ClassFile.FieldType.boolean) 0 := ⟨zw811, zw5, ⟨by decide +kernel, by decide +kernel⟩, by decide +kernel, by decide +kernel⟩
theorem zm_X4_hangs : zMe yX4_hangs cX4_hangs 8 (Option.some Jvm.ClassFile.FieldType.boolean) 3 := ⟨zw815, zw5, ⟨by decide +kernel, by decide +kernel⟩, by decide +kernel, by decide +kernel⟩
theorem zm_X4_settle : zMe yX4_settle cX4_settle 3 (Option.none : Option Jvm.ClassFile.FieldType) 0 := ⟨zw819, zw5, ⟨by decide +kernel, by decide +kernel⟩, by decide +kernel, by decide +kernel⟩
theorem zm_X4_keep : zMe yX4_keep cX4_keep 3 (Option.some Jvm.ClassFile.FieldType.int) 0 := ⟨zw760, zw5, ⟨by decide +kernel, by decide +kernel⟩, by decide +kernel, by decide +kernel⟩
theorem zm_X4_made : zMe yX4_made cX4_made 2 (Option.some Jvm.ClassFile.FieldType.int) 1 := ⟨zw839, zw5, ⟨by decide +kernel, by decide +kernel⟩, by decide +kernel, by decide +kernel⟩
theorem zm_X4_isElement : zMe yX4_isElement cX4_isElement 2 (Option.some Jvm.ClassFile.FieldType.boolean) 1 := ⟨zw776, zw5, ⟨by decide +kernel, by decide +kernel⟩, by decide +kernel, by decide +kernel⟩
theorem zm_X4_are : zMe yX4_are cX4_are 3 (Option.some Jvm.ClassFile.FieldType.boolean) 2 := ⟨zw772, zw5, ⟨by decide +kernel, by decide +kernel⟩, by decide +kernel, by decide +kernel⟩
theorem zm_X4_one : zMe yX4_one cX4_one 2 (Option.none : Option Jvm.ClassFile.FieldType) 1 := ⟨zw753, zw5, ⟨by decide +kernel, by decide +kernel⟩, by decide +kernel, by decide +kernel⟩
theorem zm_X4_number : zMe yX4_number cX4_number 5 (Option.some Jvm.ClassFile.FieldType.int) 2 := ⟨zw742, zw5, ⟨by decide +kernel, by decide +kernel⟩, by decide +kernel, by decide +kernel⟩
theorem zm_X4_base : zMe yX4_base cX4_base 1 (Option.some Jvm.ClassFile.FieldType.int) 0 := ⟨zw764, zw5, ⟨by decide +kernel, by decide +kernel⟩, by decide +kernel, by decide +kernel⟩
theorem zm_X4_letterItself : zMe yX4_letterItself cX4_letterItself 1 (Option.some Jvm.ClassFile.FieldType.int) 0 := ⟨zw823, zw5, ⟨by decide +kernel, by decide +kernel⟩, by decide +kernel, by decide +kernel⟩
theorem zm_X4_isLow : zMe yX4_isLow cX4_isLow 3 (Option.some Jvm.ClassFile.FieldType.boolean) 1 := ⟨zw780, zw5, ⟨by decide +kernel, by decide +kernel⟩, by decide +kernel, by decide +kernel⟩
theorem zm_X4_letter : zMe yX4_letter cX4_letter 4 (Option.some Jvm.ClassFile.FieldType.int) 2 := ⟨zw768, zw5, ⟨by decide +kernel, by decide +kernel⟩, by decide +kernel, by decide +kernel⟩
theorem zm_X4_top : zMe yX4_top cX4_top 1 (Option.some Jvm.ClassFile.FieldType.int) 0 := ⟨zw827, zw5, ⟨by decide +kernel, by decide +kernel⟩, by decide +kernel, by decide +kernel⟩
theorem zm_X4_sum : zMe yX4_sum cX4_sum 4 (Option.some Jvm.ClassFile.FieldType.int) 3 := ⟨zw835, zw5, ⟨by decide +kernel, by decide +kernel⟩, by decide +kernel, by decide +kernel⟩
theorem zm_X4_add : zMe yX4_add cX4_add 3 (Option.some Jvm.ClassFile.FieldType.int) 2 := ⟨zw831, zw5, ⟨by decide +kernel, by decide +kernel⟩, by decide +kernel, by decide +kernel⟩
theorem zm_X4_less : zMe yX4_less cX4_less 3 (Option.some Jvm.ClassFile.FieldType.int) 2 := ⟨zw843, zw5, ⟨by decide +kernel, by decide +kernel⟩, by decide +kernel, by decide +kernel⟩
theorem zm_X4_times : zMe yX4_times cX4_times 3 (Option.some Jvm.ClassFile.FieldType.int) 2 := ⟨zw847, zw5, ⟨by decide +kernel, by decide +kernel⟩, by decide +kernel, by decide +kernel⟩
theorem zm_X4_over : zMe yX4_over cX4_over 3 (Option.some Jvm.ClassFile.FieldType.int) 2 := ⟨zw851, zw5, ⟨by decide +kernel, by decide +kernel⟩, by decide +kernel, by decide +kernel⟩
theorem zm_X4_deriveRow : zMe yX4_deriveRow cX4_deriveRow 3 (Option.none : Option Jvm.ClassFile.FieldType) 2 := ⟨zw863, zw5, ⟨by decide +kernel, by decide +kernel⟩, by decide +kernel, by decide +kernel⟩
theorem zm_X4_deriveUp : zMe yX4_deriveUp cX4_deriveUp 2 (Option.none : Option Jvm.ClassFile.FieldType) 1 := ⟨zw859, zw5, ⟨by decide +kernel, by decide +kernel⟩, by decide +kernel, by decide +kernel⟩
theorem zm_X4_finish : zMe yX4_finish cX4_finish 3 (Option.none : Option Jvm.ClassFile.FieldType) 2 := ⟨zw867, zw5, ⟨by decide +kernel, by decide +kernel⟩, by decide +kernel, by decide +kernel⟩
theorem zm_X4_derive : zMe yX4_derive cX4_derive 2 (Option.some Jvm.ClassFile.FieldType.int) 1 := ⟨zw855, zw5, ⟨by decide +kernel, by decide +kernel⟩, by decide +kernel, by decide +kernel⟩
theorem zm_X4_logarithmic : zMe yX4_logarithmic cX4_logarithmic 2 (Option.some Jvm.ClassFile.FieldType.int) 1 := ⟨zw871, zw5, ⟨by decide +kernel, by decide +kernel⟩, by decide +kernel, by decide +kernel⟩
theorem zm_X4_divide : zMe yX4_divide cX4_divide 7 (Option.none : Option Jvm.ClassFile.FieldType) 1 := ⟨zw887, zw5, ⟨by decide +kernel, by decide +kernel⟩, by decide +kernel, by decide +kernel⟩
theorem zm_X4_makeMonic : zMe yX4_makeMonic cX4_makeMonic 5 (Option.none : Option Jvm.ClassFile.FieldType) 1 := ⟨zw883, zw5, ⟨by decide +kernel, by decide +kernel⟩, by decide +kernel, by decide +kernel⟩
theorem zm_X4_shared : zMe yX4_shared cX4_shared 1 (Option.none : Option Jvm.ClassFile.FieldType) 0 := ⟨zw879, zw5, ⟨by decide +kernel, by decide +kernel⟩, by decide +kernel, by decide +kernel⟩
theorem zm_X4_common : zMe yX4_common cX4_common 3 (Option.some Jvm.ClassFile.FieldType.int) 2 := ⟨zw875, zw5, ⟨by decide +kernel, by decide +kernel⟩, by decide +kernel, by decide +kernel⟩
theorem zm_X4_bare : zMe yX4_bare cX4_bare 4 (Option.none : Option Jvm.ClassFile.FieldType) 0 := ⟨zw895, zw5, ⟨by decide +kernel, by decide +kernel⟩, by decide +kernel, by decide +kernel⟩
theorem zm_X4_part : zMe yX4_part cX4_part 5 (Option.some Jvm.ClassFile.FieldType.int) 2 := ⟨zw891, zw5, ⟨by decide +kernel, by decide +kernel⟩, by decide +kernel, by decide +kernel⟩
theorem zm_X4_same : zMe yX4_same cX4_same 5 (Option.some Jvm.ClassFile.FieldType.boolean) 2 := ⟨zw899, zw5, ⟨by decide +kernel, by decide +kernel⟩, by decide +kernel, by decide +kernel⟩
theorem zm_X4_constant : zMe yX4_constant cX4_constant 2 (Option.some Jvm.ClassFile.FieldType.boolean) 1 := ⟨zw903, zw5, ⟨by decide +kernel, by decide +kernel⟩, by decide +kernel, by decide +kernel⟩
theorem zm_X4_low : zMe yX4_low cX4_low 2 (Option.some Jvm.ClassFile.FieldType.boolean) 1 := ⟨zw907, zw5, ⟨by decide +kernel, by decide +kernel⟩, by decide +kernel, by decide +kernel⟩
theorem zm_X4_at : zMe yX4_at cX4_at 5 (Option.some Jvm.ClassFile.FieldType.int) 4 := ⟨zw911, zw5, ⟨by decide +kernel, by decide +kernel⟩, by decide +kernel, by decide +kernel⟩
theorem zm_X4_count : zMe yX4_count cX4_count 1 (Option.some Jvm.ClassFile.FieldType.int) 0 := ⟨zw915, zw5, ⟨by decide +kernel, by decide +kernel⟩, by decide +kernel, by decide +kernel⟩
/-! starts, with the end as a hypothesis -/
section ZF
variable {l : Launch} {y : MethodName} {cc : ByteArray} {maxL lev : Nat} {D : va_G} {tys : List (ClassId × FieldType)} {N : Nat} {ad : Nat → Nat} {av : List Value} {g : Nat → va_E} {n : Nat}
theorem z_goi {S : Type} {G : S → Nat → va_E} {post : Int → S → Prop} (hm : zMe y cc maxL (some .int) n) (hl : (lg_sl av).length ≤ maxL) (lv0 : List (Nat × Value)) (hlv : lv_args 0 av = lv0)
    (body : ∀ (p : Program) (e : Env) (s : State) (m : MethodId) (args : Array Value) (below : List Frame) (meth : Method) (c : Code) (A : Nat → Prop) (Q : State → Prop), zCx p s m args meth c cc maxL y.cls (some .int) D tys N ad A →
      (∀ {z : Int} (u : S) {pc : Nat} {lv : List (Nat × Value)} {g' : Nat → va_E}, post z u → g' = G u → decode cc pc = .ok (.ireturn, 1) → Z p l e (zRm lev) s m args below meth c maxL D N ad A 0 0 Q pc lv [.int (iZ z)] g') →
      Z p l e (zRm lev) s m args below meth c maxL D N ad A 0 0 Q 0 lv0 [] g) :
    zMi l y cc maxL (some .int) lev D tys N ad av g G post := by
  subst hlv
  exact z_starti hm hl (fun p e s m args below meth c X => body p e s m args below meth c _ _ X (fun u _ _ _ hp hg hd => z_endi X u hp hg hd))
theorem z_goz {S : Type} {G : S → Nat → va_E} {post : Int → S → Prop} (hm : zMe y cc maxL (some .boolean) n) (hl : (lg_sl av).length ≤ maxL) (lv0 : List (Nat × Value)) (hlv : lv_args 0 av = lv0)
    (body : ∀ (p : Program) (e : Env) (s : State) (m : MethodId) (args : Array Value) (below : List Frame) (meth : Method) (c : Code) (A : Nat → Prop) (Q : State → Prop), zCx p s m args meth c cc maxL y.cls (some .boolean) D tys N ad A →
      (∀ {z : Int} (u : S) {pc : Nat} {lv : List (Nat × Value)} {g' : Nat → va_E}, (z = 0 ∨ z = 1) → post z u → g' = G u → decode cc pc = .ok (.ireturn, 1) → Z p l e (zRm lev) s m args below meth c maxL D N ad A 0 0 Q pc lv [.int (iZ z)] g') →
      Z p l e (zRm lev) s m args below meth c maxL D N ad A 0 0 Q 0 lv0 [] g) :
    zMi l y cc maxL (some .boolean) lev D tys N ad av g G post := by
  subst hlv
  exact z_starti hm hl (fun p e s m args below meth c X => body p e s m args below meth c _ _ X (fun u _ _ _ hz hp hg hd => z_endz X u hz hp hg hd))
theorem z_gov {S : Type} {G : S → Nat → va_E} {post : S → Prop} (hm : zMe y cc maxL none n) (hl : (lg_sl av).length ≤ maxL) (lv0 : List (Nat × Value)) (hlv : lv_args 0 av = lv0)
    (body : ∀ (p : Program) (e : Env) (s : State) (m : MethodId) (args : Array Value) (below : List Frame) (meth : Method) (c : Code) (A : Nat → Prop) (Q : State → Prop), zCx p s m args meth c cc maxL y.cls none D tys N ad A →
      (∀ (u : S) {pc : Nat} {lv : List (Nat × Value)} {g' : Nat → va_E}, post u → g' = G u → decode cc pc = .ok (.return_, 1) → Z p l e (zRm lev) s m args below meth c maxL D N ad A 0 0 Q pc lv [] g') →
      Z p l e (zRm lev) s m args below meth c maxL D N ad A 0 0 Q 0 lv0 [] g) :
    zMv l y cc maxL lev D tys N ad av g G post := by
  subst hlv
  exact z_startv hm hl (fun p e s m args below meth c X => body p e s m args below meth c _ _ X (fun u _ _ _ hp hg hd => z_endv X u hp hg hd))
theorem z_gor {S : Type} {G : S → Nat → va_E} {post : Nat → S → Prop} {C : String} (hm : zMe y cc maxL (some (.object C)) n) (hl : (lg_sl av).length ≤ maxL) (lv0 : List (Nat × Value)) (hlv : lv_args 0 av = lv0)
    (body : ∀ (p : Program) (e : Env) (s : State) (m : MethodId) (args : Array Value) (below : List Frame) (meth : Method) (c : Code) (A : Nat → Prop) (Q : State → Prop), zCx p s m args meth c cc maxL y.cls (some (.object C)) D tys N ad A →
      (∀ {k : Nat} (u : S) {pc : Nat} {lv : List (Nat × Value)} {g' : Nat → va_E}, post k u → g' = G u → decode cc pc = .ok (.areturn, 1) → Z p l e (zRm lev) s m args below meth c maxL D N ad A 0 0 Q pc lv [.ref (ad k)] g') →
      Z p l e (zRm lev) s m args below meth c maxL D N ad A 0 0 Q 0 lv0 [] g) :
    zMr l y cc maxL (some (.object C)) lev D tys N ad av g G post := by
  subst hlv
  exact z_startr hm hl (fun p e s m args below meth c X => body p e s m args below meth c _ _ X (fun u _ _ _ hp hg hd => z_endr X u hp hg hd))
end ZF
section ZB
variable {p : Program} {l : Launch} {e : Env} {R : Room} {s : State} {m : MethodId} {args : Array Value} {below : List Frame} {meth : Method} {c : Code} {cc : ByteArray} {nL : Nat} {own : String} {ret : Option FieldType} {D : va_G} {tys : List (ClassId × FieldType)} {N : Nat} {ad : Nat → Nat} {A : Nat → Prop} {cells slots : Nat} {Q : State → Prop} {pc : Nat} {lv : List (Nat × Value)} {st : List Value} {g : Nat → va_E}
theorem z_iand1 (X : zCx p s m args meth c cc nL own ret D tys N ad A) {n : Nat} (h : n < 2147483648) (hd : decode cc pc = .ok (.iand, 1)) (k : Z p l e R s m args below meth c nL D N ad A cells slots Q (pc + 1) lv (.int (iZ ((n % 2 : Nat) : Int)) :: st) g) : Z p l e R s m args below meth c nL D N ad A cells slots Q pc lv (.int (iZ 1) :: .int (iZ (n : Int)) :: st) g := fun H locs ls hl hP hS => lv_iand (zx_e X) (zx_b X) hd (by
  rw [iZ_nI, pk_andN (m := iZ 1) (by omega) 1 (by decide)]
  exact k H locs ls hl hP hS)
theorem z_ishr1 (X : zCx p s m args meth c cc nL own ret D tys N ad A) {n : Nat} (h : n < 2147483648) (hd : decode cc pc = .ok (.ishr, 1)) (k : Z p l e R s m args below meth c nL D N ad A cells slots Q (pc + 1) lv (.int (iZ ((n / 2 : Nat) : Int)) :: st) g) : Z p l e R s m args below meth c nL D N ad A cells slots Q pc lv (.int (iZ 1) :: .int (iZ (n : Int)) :: st) g := fun H locs ls hl hP hS => lv_ishr (zx_e X) (zx_b X) hd (by
  rw [iZ_nI, pk_shrN (by omega) (iZ 1 &&& 31) 1 (by decide)]
  exact k H locs ls hl hP hS)
end ZB
