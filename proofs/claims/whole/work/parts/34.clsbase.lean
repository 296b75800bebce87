/-! Names of the JDK classes whose members are walked; words that many use. -/
def RJ_AB : String := "java/lang/AbstractStringBuilder"
def RJ_AbL : String := "java/util/AbstractList"
def RJ_AbC : String := "java/util/AbstractCollection"
def RJ_L1 : String := "java/lang/StringLatin1"
def RJ_Ar : String := "java/util/Arrays"
def RJ_AS : String := "jdk/internal/util/ArraysSupport"
def RJ_Ob : String := "java/util/Objects"
def RJ_Pc : String := "jdk/internal/util/Preconditions"
def RJ_Ma : String := "java/lang/Math"
def RJ_O : String := "java/lang/Object"
theorem mA_char : Cond.arrayClass .char ∈ wsA := List.mem_filter.mpr ⟨List.mem_of_getElem? (i := 148) (by decide +kernel), by decide +kernel⟩
theorem mA_byte : Cond.arrayClass .byte ∈ wsA := List.mem_filter.mpr ⟨List.mem_of_getElem? (i := 253) (by decide +kernel), by decide +kernel⟩
theorem mA_oI : Cond.instanceMethod objectInit ∈ wsA := List.mem_filter.mpr ⟨List.mem_of_getElem? (i := 131) (by decide +kernel), by decide +kernel⟩
theorem mA_oC : Cond.code objectInit ⟨#[0xb1]⟩ 1 none ∈ wsA := List.mem_filter.mpr ⟨List.mem_of_getElem? (i := 132) (by decide +kernel), by decide +kernel⟩
theorem cat_i {x : Int32} : (Value.int x).category = 1 := rfl
theorem cat_r {x : Nat} : (Value.ref x).category = 1 := rfl
theorem cat_l {x : Int64} : (Value.long x).category = 2 := rfl
