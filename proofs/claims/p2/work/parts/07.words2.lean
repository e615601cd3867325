def wsX4_init : List Cond := .code yX4_init cX4_init 1 none :: ([.methodLink RX4 3 objectInit, .instanceMethod objectInit, .code objectInit ⟨#[0xb1]⟩ 1 none, .arrayClass .int, .fieldLink RX4 9 "UnibusMachine$PageMap" "descriptors" "[I", .fieldLink RX4 13 "UnibusMachine$PageMap" "bases" "[I", .fieldLink RX4 16 "UnibusMachine$PageMap" "control" "I"] ++ wsX40)
def wsX7_init : List Cond := .code yX7_init cX7_init 1 none :: ([.methodLink RX7 1 objectInit, .instanceMethod objectInit, .code objectInit ⟨#[0xb1]⟩ 1 none, .fieldLink RX7 7 "UnibusMachine$Status" "now" "I", .fieldLink RX7 13 "UnibusMachine$Status" "written" "I"] ++ wsX70)
def wsX3_init : List Cond := .code yX3_init cX3_init 1 none :: ([.methodLink RX3 3 objectInit, .instanceMethod objectInit, .code objectInit ⟨#[0xb1]⟩ 1 none, .fieldLink RX3 9 "UnibusMachine$Line" "bits" "I", .fieldLink RX3 13 "UnibusMachine$Line" "wanting" "Z"] ++ wsX10 ++ wsX20 ++ wsX50)
def wsX2_init : List Cond := .code yX2_init cX2_init 1 none :: ([.fieldLink RX2 7 "UnibusMachine$Keyboard" "character" "I", .instanceMethod yX3_init, .initialized RX3, .code yX3_init cX3_init 1 none, .methodLink RX3 3 objectInit, .instanceMethod objectInit, .code objectInit ⟨#[0xb1]⟩ 1 none, .fieldLink RX3 9 "UnibusMachine$Line" "bits" "I", .fieldLink RX3 13 "UnibusMachine$Line" "wanting" "Z"] ++ wsX20 ++ wsX10 ++ wsX50)
def wsX5_init : List Cond := .code yX5_init cX5_init 1 none :: ([.arrayClass .int, .fieldLink RX5 9 "UnibusMachine$Printer" "paper" "[I", .fieldLink RX5 13 "UnibusMachine$Printer" "count" "I", .fieldLink RX5 17 "UnibusMachine$Printer" "character" "I", .fieldLink RX5 20 "UnibusMachine$Printer" "left" "I", .fieldLink RX5 23 "UnibusMachine$Printer" "fresh" "Z", .fieldLink RX5 27 "UnibusMachine$Printer" "bits" "I", .sameField "UnibusMachine$Printer" "UnibusMachine$Line" "bits" "I", .instanceMethod yX3_init, .initialized RX3, .code yX3_init cX3_init 1 none, .methodLink RX3 3 objectInit, .instanceMethod objectInit, .code objectInit ⟨#[0xb1]⟩ 1 none, .fieldLink RX3 9 "UnibusMachine$Line" "bits" "I", .fieldLink RX3 13 "UnibusMachine$Line" "wanting" "Z"] ++ wsX50 ++ wsX10 ++ wsX20)
def wsX1_init : List Cond := .code yX1_init cX1_init 1 none :: ([.arrayClass .int, .fieldLink RX1 9 "UnibusMachine$Drive" "words" "[I", .fieldLink RX1 13 "UnibusMachine$Drive" "writing" "I", .fieldLink RX1 17 "UnibusMachine$Drive" "wrong" "I", .fieldLink RX1 20 "UnibusMachine$Drive" "count" "I", .fieldLink RX1 23 "UnibusMachine$Drive" "address" "I", .fieldLink RX1 26 "UnibusMachine$Drive" "sector" "I", .fieldLink RX1 29 "UnibusMachine$Drive" "left" "I", .fieldLink RX1 32 "UnibusMachine$Drive" "fresh" "Z", .fieldLink RX1 36 "UnibusMachine$Drive" "bits" "I", .sameField "UnibusMachine$Drive" "UnibusMachine$Line" "bits" "I", .instanceMethod yX3_init, .initialized RX3, .code yX3_init cX3_init 1 none, .methodLink RX3 3 objectInit, .instanceMethod objectInit, .code objectInit ⟨#[0xb1]⟩ 1 none, .fieldLink RX3 9 "UnibusMachine$Line" "bits" "I", .fieldLink RX3 13 "UnibusMachine$Line" "wanting" "Z"] ++ wsX10 ++ wsX20 ++ wsX50)
def wsX0_init_r1 : List Cond := [Cond.methodLink RX0 1 objectInit, Cond.instanceMethod objectInit, Cond.code objectInit ⟨#[0xb1]⟩ 1 none, Cond.arrayClass .int, Cond.fieldLink RX0 9 "UnibusMachine$Bus" "memory" "[I", Cond.classLink RX0 13 RX4, Cond.instantiable RX4 3, Cond.initialized RX4, Cond.fieldLink RX0 16 "UnibusMachine$Bus" "map" "LUnibusMachine$PageMap;", Cond.classLink RX0 20 RX7, Cond.instantiable RX7 2, Cond.initialized RX7, Cond.fieldLink RX0 23 "UnibusMachine$Bus" "status" "LUnibusMachine$Status;", Cond.classLink RX0 27 RX2, Cond.instantiable RX2 3, Cond.initialized RX2, Cond.fieldLink RX0 30 "UnibusMachine$Bus" "keyboard" "LUnibusMachine$Keyboard;", Cond.classLink RX0 34 RX5, Cond.instantiable RX5 7, Cond.initialized RX5, Cond.fieldLink RX0 37 "UnibusMachine$Bus" "printer" "LUnibusMachine$Printer;", Cond.classLink RX0 41 RX1, Cond.instantiable RX1 10, Cond.initialized RX1]
def wsX0_init_r2 : List Cond := [Cond.fieldLink RX0 44 "UnibusMachine$Bus" "drive" "LUnibusMachine$Drive;", Cond.instanceMethod yX4_init, Cond.code yX4_init cX4_init 1 none, Cond.methodLink RX4 3 objectInit, Cond.fieldLink RX4 9 "UnibusMachine$PageMap" "descriptors" "[I", Cond.fieldLink RX4 13 "UnibusMachine$PageMap" "bases" "[I", Cond.fieldLink RX4 16 "UnibusMachine$PageMap" "control" "I", Cond.instanceMethod yX7_init, Cond.code yX7_init cX7_init 1 none, Cond.methodLink RX7 1 objectInit, Cond.fieldLink RX7 7 "UnibusMachine$Status" "now" "I", Cond.fieldLink RX7 13 "UnibusMachine$Status" "written" "I", Cond.instanceMethod yX2_init, Cond.code yX2_init cX2_init 1 none, Cond.fieldLink RX2 7 "UnibusMachine$Keyboard" "character" "I", Cond.instanceMethod yX3_init, Cond.initialized RX3, Cond.code yX3_init cX3_init 1 none, Cond.methodLink RX3 3 objectInit, Cond.fieldLink RX3 9 "UnibusMachine$Line" "bits" "I", Cond.fieldLink RX3 13 "UnibusMachine$Line" "wanting" "Z", Cond.methodLink RX0 36 yX5_init, Cond.instanceMethod yX5_init, Cond.code yX5_init cX5_init 1 none]
def wsX0_init_r3 : List Cond := [Cond.fieldLink RX5 9 "UnibusMachine$Printer" "paper" "[I", Cond.fieldLink RX5 13 "UnibusMachine$Printer" "count" "I", Cond.fieldLink RX5 17 "UnibusMachine$Printer" "character" "I", Cond.fieldLink RX5 20 "UnibusMachine$Printer" "left" "I", Cond.fieldLink RX5 23 "UnibusMachine$Printer" "fresh" "Z", Cond.fieldLink RX5 27 "UnibusMachine$Printer" "bits" "I", Cond.sameField "UnibusMachine$Printer" "UnibusMachine$Line" "bits" "I", Cond.methodLink RX0 43 yX1_init, Cond.instanceMethod yX1_init, Cond.code yX1_init cX1_init 1 none, Cond.fieldLink RX1 9 "UnibusMachine$Drive" "words" "[I", Cond.fieldLink RX1 13 "UnibusMachine$Drive" "writing" "I", Cond.fieldLink RX1 17 "UnibusMachine$Drive" "wrong" "I", Cond.fieldLink RX1 20 "UnibusMachine$Drive" "count" "I", Cond.fieldLink RX1 23 "UnibusMachine$Drive" "address" "I", Cond.fieldLink RX1 26 "UnibusMachine$Drive" "sector" "I", Cond.fieldLink RX1 29 "UnibusMachine$Drive" "left" "I", Cond.fieldLink RX1 32 "UnibusMachine$Drive" "fresh" "Z", Cond.fieldLink RX1 36 "UnibusMachine$Drive" "bits" "I", Cond.sameField "UnibusMachine$Drive" "UnibusMachine$Line" "bits" "I"]
def wsX0_init : List Cond := .code yX0_init cX0_init 1 none :: ((wsX0_init_r1 ++ (wsX0_init_r2 ++ wsX0_init_r3)) ++ wsX00 ++ wsX40 ++ wsX70 ++ wsX20 ++ wsX50 ++ wsX10)
def wsX6_init : List Cond := .code yX6_init cX6_init 2 none :: ([.methodLink RX6 1 objectInit, .instanceMethod objectInit, .code objectInit ⟨#[0xb1]⟩ 1 none, .arrayClass .int, .fieldLink RX6 7 "UnibusMachine$Processor" "registers" "[I", .fieldLink RX6 13 "UnibusMachine$Processor" "otherStack" "I", .fieldLink RX6 17 "UnibusMachine$Processor" "halted" "I", .fieldLink RX6 20 "UnibusMachine$Processor" "waiting" "Z", .fieldLink RX6 24 "UnibusMachine$Processor" "vector" "I", .fieldLink RX6 27 "UnibusMachine$Processor" "named" "I", .fieldLink RX6 30 "UnibusMachine$Processor" "flags" "I", .fieldLink RX6 33 "UnibusMachine$Processor" "bus" "LUnibusMachine$Bus;", .fieldLink RX6 37 "UnibusMachine$Bus" "status" "LUnibusMachine$Status;", .fieldLink RX6 43 "UnibusMachine$Processor" "status" "LUnibusMachine$Status;"] ++ wsX60 ++ wsX00)
def wsX8_init_r1 : List Cond := [Cond.methodLink RX8 1 objectInit, Cond.instanceMethod objectInit, Cond.code objectInit ⟨#[0xb1]⟩ 1 none, Cond.classLink RX8 7 RX0, Cond.instantiable RX0 6, Cond.initialized RX0, Cond.fieldLink RX8 10 "UnibusMachine" "bus" "LUnibusMachine$Bus;", Cond.classLink RX8 16 RX6, Cond.instantiable RX6 9, Cond.initialized RX6, Cond.fieldLink RX8 21 "UnibusMachine" "processor" "LUnibusMachine$Processor;", Cond.instanceMethod yX0_init, Cond.code yX0_init cX0_init 1 none, Cond.methodLink RX0 1 objectInit, Cond.arrayClass .int, Cond.fieldLink RX0 9 "UnibusMachine$Bus" "memory" "[I", Cond.classLink RX0 13 RX4, Cond.instantiable RX4 3, Cond.initialized RX4, Cond.fieldLink RX0 16 "UnibusMachine$Bus" "map" "LUnibusMachine$PageMap;", Cond.classLink RX0 20 RX7, Cond.instantiable RX7 2, Cond.initialized RX7, Cond.fieldLink RX0 23 "UnibusMachine$Bus" "status" "LUnibusMachine$Status;"]
def wsX8_init_r2 : List Cond := [Cond.classLink RX0 27 RX2, Cond.instantiable RX2 3, Cond.initialized RX2, Cond.fieldLink RX0 30 "UnibusMachine$Bus" "keyboard" "LUnibusMachine$Keyboard;", Cond.classLink RX0 34 RX5, Cond.instantiable RX5 7, Cond.initialized RX5, Cond.fieldLink RX0 37 "UnibusMachine$Bus" "printer" "LUnibusMachine$Printer;", Cond.classLink RX0 41 RX1, Cond.instantiable RX1 10, Cond.initialized RX1, Cond.fieldLink RX0 44 "UnibusMachine$Bus" "drive" "LUnibusMachine$Drive;", Cond.instanceMethod yX4_init, Cond.code yX4_init cX4_init 1 none, Cond.methodLink RX4 3 objectInit, Cond.fieldLink RX4 9 "UnibusMachine$PageMap" "descriptors" "[I", Cond.fieldLink RX4 13 "UnibusMachine$PageMap" "bases" "[I", Cond.fieldLink RX4 16 "UnibusMachine$PageMap" "control" "I", Cond.instanceMethod yX7_init, Cond.code yX7_init cX7_init 1 none, Cond.methodLink RX7 1 objectInit, Cond.fieldLink RX7 7 "UnibusMachine$Status" "now" "I", Cond.fieldLink RX7 13 "UnibusMachine$Status" "written" "I", Cond.instanceMethod yX2_init]
def wsX8_init_r3 : List Cond := [Cond.code yX2_init cX2_init 1 none, Cond.fieldLink RX2 7 "UnibusMachine$Keyboard" "character" "I", Cond.instanceMethod yX3_init, Cond.initialized RX3, Cond.code yX3_init cX3_init 1 none, Cond.methodLink RX3 3 objectInit, Cond.fieldLink RX3 9 "UnibusMachine$Line" "bits" "I", Cond.fieldLink RX3 13 "UnibusMachine$Line" "wanting" "Z", Cond.methodLink RX0 36 yX5_init, Cond.instanceMethod yX5_init, Cond.code yX5_init cX5_init 1 none, Cond.fieldLink RX5 9 "UnibusMachine$Printer" "paper" "[I", Cond.fieldLink RX5 13 "UnibusMachine$Printer" "count" "I", Cond.fieldLink RX5 17 "UnibusMachine$Printer" "character" "I", Cond.fieldLink RX5 20 "UnibusMachine$Printer" "left" "I", Cond.fieldLink RX5 23 "UnibusMachine$Printer" "fresh" "Z", Cond.fieldLink RX5 27 "UnibusMachine$Printer" "bits" "I", Cond.sameField "UnibusMachine$Printer" "UnibusMachine$Line" "bits" "I", Cond.methodLink RX0 43 yX1_init, Cond.instanceMethod yX1_init, Cond.code yX1_init cX1_init 1 none, Cond.fieldLink RX1 9 "UnibusMachine$Drive" "words" "[I", Cond.fieldLink RX1 13 "UnibusMachine$Drive" "writing" "I", Cond.fieldLink RX1 17 "UnibusMachine$Drive" "wrong" "I"]
def wsX8_init_r4 : List Cond := [Cond.fieldLink RX1 20 "UnibusMachine$Drive" "count" "I", Cond.fieldLink RX1 23 "UnibusMachine$Drive" "address" "I", Cond.fieldLink RX1 26 "UnibusMachine$Drive" "sector" "I", Cond.fieldLink RX1 29 "UnibusMachine$Drive" "left" "I", Cond.fieldLink RX1 32 "UnibusMachine$Drive" "fresh" "Z", Cond.fieldLink RX1 36 "UnibusMachine$Drive" "bits" "I", Cond.sameField "UnibusMachine$Drive" "UnibusMachine$Line" "bits" "I", Cond.methodLink RX8 18 yX6_init, Cond.instanceMethod yX6_init, Cond.code yX6_init cX6_init 2 none, Cond.methodLink RX6 1 objectInit, Cond.fieldLink RX6 7 "UnibusMachine$Processor" "registers" "[I", Cond.fieldLink RX6 13 "UnibusMachine$Processor" "otherStack" "I", Cond.fieldLink RX6 17 "UnibusMachine$Processor" "halted" "I", Cond.fieldLink RX6 20 "UnibusMachine$Processor" "waiting" "Z", Cond.fieldLink RX6 24 "UnibusMachine$Processor" "vector" "I", Cond.fieldLink RX6 27 "UnibusMachine$Processor" "named" "I", Cond.fieldLink RX6 30 "UnibusMachine$Processor" "flags" "I", Cond.fieldLink RX6 33 "UnibusMachine$Processor" "bus" "LUnibusMachine$Bus;", Cond.fieldLink RX6 37 "UnibusMachine$Bus" "status" "LUnibusMachine$Status;", Cond.fieldLink RX6 43 "UnibusMachine$Processor" "status" "LUnibusMachine$Status;"]
def wsX8_init : List Cond := .code yX8_init cX8_init 1 none :: ((wsX8_init_r1 ++ (wsX8_init_r2 ++ (wsX8_init_r3 ++ wsX8_init_r4))) ++ wsX00 ++ wsX80 ++ wsX60 ++ wsX40 ++ wsX70 ++ wsX20 ++ wsX50 ++ wsX10)
def wsX8_isMemory : List Cond := .code yX8_isMemory cX8_isMemory 1 (some .boolean) :: ([])
def wsX8_isWord : List Cond := .code yX8_isWord cX8_isWord 1 (some .boolean) :: ([.constant RX8 124 (65535)])
def wsX8_deposit : List Cond := .code yX8_deposit cX8_deposit 3 none :: ([.classLink RX8 32 "java/lang/IllegalArgumentException", .initialized "java/lang/IllegalArgumentException", .fieldLink RX8 10 "UnibusMachine" "bus" "LUnibusMachine$Bus;", .fieldLink RX8 35 "UnibusMachine$Bus" "memory" "[I", .methodLink RX8 25 yX8_isMemory, .static yX8_isMemory, .initialized RX8, .code yX8_isMemory cX8_isMemory 1 (some .boolean), .methodLink RX8 29 yX8_isWord, .static yX8_isWord, .code yX8_isWord cX8_isWord 1 (some .boolean), .constant RX8 124 (65535)] ++ wsX80 ++ wsX00 ++ (vx_at0 RX8 34 "java/lang/IllegalArgumentException" ["java/lang/RuntimeException", "java/lang/Exception"]).filter goodWord)
def wsX8_set : List Cond := .code yX8_set cX8_set 3 none :: ([.classLink RX8 32 "java/lang/IllegalArgumentException", .initialized "java/lang/IllegalArgumentException", .fieldLink RX8 21 "UnibusMachine" "processor" "LUnibusMachine$Processor;", .fieldLink RX8 43 "UnibusMachine$Processor" "otherStack" "I", .fieldLink RX8 47 "UnibusMachine$Processor" "registers" "[I", .methodLink RX8 29 yX8_isWord, .static yX8_isWord, .initialized RX8, .code yX8_isWord cX8_isWord 1 (some .boolean), .constant RX8 124 (65535), .methodLink RX8 39 yX6_mode, .instanceMethod yX6_mode, .selects RX6 yX6_mode yX6_mode, .initialized RX6, .code yX6_mode cX6_mode 1 (some .int), .fieldLink RX6 43 "UnibusMachine$Processor" "status" "LUnibusMachine$Status;", .fieldLink RX6 44 "UnibusMachine$Status" "now" "I"] ++ wsX80 ++ wsX60 ++ wsX70 ++ (vx_at0 RX8 34 "java/lang/IllegalArgumentException" ["java/lang/RuntimeException", "java/lang/Exception"]).filter goodWord)
def wsX8_start : List Cond := .code yX8_start cX8_start 2 none :: ([.classLink RX8 32 "java/lang/IllegalArgumentException", .initialized "java/lang/IllegalArgumentException", .fieldLink RX8 21 "UnibusMachine" "processor" "LUnibusMachine$Processor;", .fieldLink RX8 47 "UnibusMachine$Processor" "registers" "[I", .fieldLink RX8 63 "UnibusMachine$Processor" "halted" "I", .fieldLink RX8 66 "UnibusMachine$Processor" "waiting" "Z", .methodLink RX8 29 yX8_isWord, .static yX8_isWord, .initialized RX8, .code yX8_isWord cX8_isWord 1 (some .boolean), .constant RX8 124 (65535), .methodLink RX8 59 yX6_takeStatus, .instanceMethod yX6_takeStatus, .selects RX6 yX6_takeStatus yX6_takeStatus, .initialized RX6, .code yX6_takeStatus cX6_takeStatus 3 none, .fieldLink RX6 43 "UnibusMachine$Processor" "status" "LUnibusMachine$Status;", .fieldLink RX6 44 "UnibusMachine$Status" "now" "I", .fieldLink RX6 7 "UnibusMachine$Processor" "registers" "[I", .fieldLink RX6 13 "UnibusMachine$Processor" "otherStack" "I"] ++ wsX80 ++ wsX60 ++ wsX70 ++ (vx_at0 RX8 34 "java/lang/IllegalArgumentException" ["java/lang/RuntimeException", "java/lang/Exception"]).filter goodWord)
def wsX9_init : List Cond := .code yX9_init cX9_init 1 none :: ([.methodLink RX9 1 objectInit, .instanceMethod objectInit, .code objectInit ⟨#[0xb1]⟩ 1 none, .arrayClass .int, .fieldLink RX9 7 "UnibusMachineModel" "memory" "[I", .fieldLink RX9 13 "UnibusMachineModel" "descriptor" "[I", .fieldLink RX9 16 "UnibusMachineModel" "base" "[I", .fieldLink RX9 19 "UnibusMachineModel" "reg" "[I", .fieldLink RX9 22 "UnibusMachineModel" "state" "I", .arrayClass .boolean, .fieldLink RX9 26 "UnibusMachineModel" "ready" "[Z", .fieldLink RX9 30 "UnibusMachineModel" "enabled" "[Z", .fieldLink RX9 33 "UnibusMachineModel" "both" "[Z", .fieldLink RX9 36 "UnibusMachineModel" "wants" "[Z", .fieldLink RX9 39 "UnibusMachineModel" "busy" "[I", .fieldLink RX9 42 "UnibusMachineModel" "paper" "[I", .fieldLink RX9 45 "UnibusMachineModel" "sectors" "[I"] ++ wsX90)
def wsX9_thrown : List Cond := .code yX9_thrown cX9_thrown 1 (some .int) :: ([.fieldLink RX9 48 "UnibusMachineModel" "thrown" "I"] ++ wsX90)
def wsX9_out : List Cond := .code yX9_out cX9_out 2 (some .boolean) :: ([])
def wsX9_bit : List Cond := .code yX9_bit cX9_bit 2 (some .int) :: ([])
def wsX9_at : List Cond := .code yX9_at cX9_at 3 (some .int) :: ([.fieldLink RX9 7 "UnibusMachineModel" "memory" "[I", .constant RX9 64 (57344), .fieldLink RX9 13 "UnibusMachineModel" "descriptor" "[I", .fieldLink RX9 16 "UnibusMachineModel" "base" "[I", .fieldLink RX9 65 "UnibusMachineModel" "control" "I", .fieldLink RX9 72 "UnibusMachineModel" "typed" "I", .fieldLink RX9 75 "UnibusMachineModel" "many" "I", .fieldLink RX9 78 "UnibusMachineModel" "from" "I", .fieldLink RX9 81 "UnibusMachineModel" "sector" "I", .fieldLink RX9 84 "UnibusMachineModel" "status" "I", .methodLink RX9 68 yX9_statusOf, .instanceMethod yX9_statusOf, .selects RX9 yX9_statusOf yX9_statusOf, .initialized RX9, .code yX9_statusOf cX9_statusOf 2 (some .int), .fieldLink RX9 26 "UnibusMachineModel" "ready" "[Z", .fieldLink RX9 30 "UnibusMachineModel" "enabled" "[Z", .fieldLink RX9 56 "UnibusMachineModel" "writes" "Z", .fieldLink RX9 60 "UnibusMachineModel" "failed" "Z", .constant RX9 63 (32768), .methodLink RX9 52 yX9_bit, .static yX9_bit, .code yX9_bit cX9_bit 2 (some .int)] ++ wsX90)
def wsX9_read_r1 : List Cond := [Cond.fieldLink RX9 87 "UnibusMachineModel" "wrong" "I", Cond.constant RX9 93 (57426), Cond.fieldLink RX9 26 "UnibusMachineModel" "ready" "[Z", Cond.methodLink RX9 90 yX9_at, Cond.instanceMethod yX9_at, Cond.selects RX9 yX9_at yX9_at, Cond.initialized RX9, Cond.code yX9_at cX9_at 3 (some .int), Cond.fieldLink RX9 7 "UnibusMachineModel" "memory" "[I", Cond.constant RX9 64 (57344), Cond.fieldLink RX9 13 "UnibusMachineModel" "descriptor" "[I", Cond.fieldLink RX9 16 "UnibusMachineModel" "base" "[I", Cond.fieldLink RX9 65 "UnibusMachineModel" "control" "I", Cond.fieldLink RX9 72 "UnibusMachineModel" "typed" "I", Cond.fieldLink RX9 75 "UnibusMachineModel" "many" "I", Cond.fieldLink RX9 78 "UnibusMachineModel" "from" "I", Cond.fieldLink RX9 81 "UnibusMachineModel" "sector" "I", Cond.fieldLink RX9 84 "UnibusMachineModel" "status" "I", Cond.methodLink RX9 68 yX9_statusOf, Cond.instanceMethod yX9_statusOf, Cond.selects RX9 yX9_statusOf yX9_statusOf, Cond.code yX9_statusOf cX9_statusOf 2 (some .int), Cond.fieldLink RX9 30 "UnibusMachineModel" "enabled" "[Z", Cond.fieldLink RX9 56 "UnibusMachineModel" "writes" "Z"]
def wsX9_read_r2 : List Cond := [Cond.fieldLink RX9 60 "UnibusMachineModel" "failed" "Z", Cond.constant RX9 63 (32768), Cond.methodLink RX9 52 yX9_bit, Cond.static yX9_bit, Cond.code yX9_bit cX9_bit 2 (some .int)]
def wsX9_read : List Cond := .code yX9_read cX9_read 3 (some .int) :: ((wsX9_read_r1 ++ wsX9_read_r2) ++ wsX90)
def wsX9_write_r1 : List Cond := [Cond.fieldLink RX9 87 "UnibusMachineModel" "wrong" "I", Cond.constant RX9 64 (57344), Cond.fieldLink RX9 7 "UnibusMachineModel" "memory" "[I", Cond.fieldLink RX9 13 "UnibusMachineModel" "descriptor" "[I", Cond.fieldLink RX9 16 "UnibusMachineModel" "base" "[I", Cond.constant RX9 94 (57375), Cond.fieldLink RX9 65 "UnibusMachineModel" "control" "I", Cond.fieldLink RX9 30 "UnibusMachineModel" "enabled" "[Z", Cond.fieldLink RX9 75 "UnibusMachineModel" "many" "I", Cond.fieldLink RX9 78 "UnibusMachineModel" "from" "I", Cond.fieldLink RX9 81 "UnibusMachineModel" "sector" "I", Cond.fieldLink RX9 84 "UnibusMachineModel" "status" "I", Cond.methodLink RX9 90 yX9_at, Cond.instanceMethod yX9_at, Cond.selects RX9 yX9_at yX9_at, Cond.initialized RX9, Cond.code yX9_at cX9_at 3 (some .int), Cond.fieldLink RX9 72 "UnibusMachineModel" "typed" "I", Cond.methodLink RX9 68 yX9_statusOf, Cond.instanceMethod yX9_statusOf, Cond.selects RX9 yX9_statusOf yX9_statusOf, Cond.code yX9_statusOf cX9_statusOf 2 (some .int), Cond.fieldLink RX9 26 "UnibusMachineModel" "ready" "[Z", Cond.fieldLink RX9 56 "UnibusMachineModel" "writes" "Z"]
def wsX9_write_r2 : List Cond := [Cond.fieldLink RX9 60 "UnibusMachineModel" "failed" "Z", Cond.constant RX9 63 (32768), Cond.methodLink RX9 52 yX9_bit, Cond.static yX9_bit, Cond.code yX9_bit cX9_bit 2 (some .int), Cond.methodLink RX9 95 yX9_print, Cond.instanceMethod yX9_print, Cond.selects RX9 yX9_print yX9_print, Cond.code yX9_print cX9_print 2 none, Cond.fieldLink RX9 102 "UnibusMachineModel" "printing" "I", Cond.fieldLink RX9 39 "UnibusMachineModel" "busy" "[I", Cond.methodLink RX9 99 yX9_order, Cond.instanceMethod yX9_order, Cond.selects RX9 yX9_order yX9_order, Cond.code yX9_order cX9_order 2 none]
def wsX9_write : List Cond := .code yX9_write cX9_write 4 none :: ((wsX9_write_r1 ++ wsX9_write_r2) ++ wsX90)
def wsX9_mapped : List Cond := .code yX9_mapped cX9_mapped 8 (some .int) :: ([.fieldLink RX9 87 "UnibusMachineModel" "wrong" "I", .fieldLink RX9 65 "UnibusMachineModel" "control" "I", .fieldLink RX9 13 "UnibusMachineModel" "descriptor" "[I", .fieldLink RX9 16 "UnibusMachineModel" "base" "[I", .constant RX9 51 (65536)] ++ wsX90)
def wsX9_wordAt_r1 : List Cond := [Cond.fieldLink RX9 87 "UnibusMachineModel" "wrong" "I", Cond.methodLink RX9 105 yX9_mapped, Cond.instanceMethod yX9_mapped, Cond.selects RX9 yX9_mapped yX9_mapped, Cond.initialized RX9, Cond.code yX9_mapped cX9_mapped 8 (some .int), Cond.fieldLink RX9 65 "UnibusMachineModel" "control" "I", Cond.fieldLink RX9 13 "UnibusMachineModel" "descriptor" "[I", Cond.fieldLink RX9 16 "UnibusMachineModel" "base" "[I", Cond.constant RX9 51 (65536), Cond.methodLink RX9 109 yX9_read, Cond.instanceMethod yX9_read, Cond.selects RX9 yX9_read yX9_read, Cond.code yX9_read cX9_read 3 (some .int), Cond.constant RX9 93 (57426), Cond.fieldLink RX9 26 "UnibusMachineModel" "ready" "[Z", Cond.methodLink RX9 90 yX9_at, Cond.instanceMethod yX9_at, Cond.selects RX9 yX9_at yX9_at, Cond.code yX9_at cX9_at 3 (some .int), Cond.fieldLink RX9 7 "UnibusMachineModel" "memory" "[I", Cond.constant RX9 64 (57344), Cond.fieldLink RX9 72 "UnibusMachineModel" "typed" "I", Cond.fieldLink RX9 75 "UnibusMachineModel" "many" "I"]
def wsX9_wordAt_r2 : List Cond := [Cond.fieldLink RX9 78 "UnibusMachineModel" "from" "I", Cond.fieldLink RX9 81 "UnibusMachineModel" "sector" "I", Cond.fieldLink RX9 84 "UnibusMachineModel" "status" "I", Cond.methodLink RX9 68 yX9_statusOf, Cond.instanceMethod yX9_statusOf, Cond.selects RX9 yX9_statusOf yX9_statusOf, Cond.code yX9_statusOf cX9_statusOf 2 (some .int), Cond.fieldLink RX9 30 "UnibusMachineModel" "enabled" "[Z", Cond.fieldLink RX9 56 "UnibusMachineModel" "writes" "Z", Cond.fieldLink RX9 60 "UnibusMachineModel" "failed" "Z", Cond.constant RX9 63 (32768), Cond.methodLink RX9 52 yX9_bit, Cond.static yX9_bit, Cond.code yX9_bit cX9_bit 2 (some .int)]
def wsX9_wordAt : List Cond := .code yX9_wordAt cX9_wordAt 3 (some .int) :: ((wsX9_wordAt_r1 ++ wsX9_wordAt_r2) ++ wsX90)
def wsX9_setWord_r1 : List Cond := [Cond.fieldLink RX9 87 "UnibusMachineModel" "wrong" "I", Cond.methodLink RX9 105 yX9_mapped, Cond.instanceMethod yX9_mapped, Cond.selects RX9 yX9_mapped yX9_mapped, Cond.initialized RX9, Cond.code yX9_mapped cX9_mapped 8 (some .int), Cond.fieldLink RX9 65 "UnibusMachineModel" "control" "I", Cond.fieldLink RX9 13 "UnibusMachineModel" "descriptor" "[I", Cond.fieldLink RX9 16 "UnibusMachineModel" "base" "[I", Cond.constant RX9 51 (65536), Cond.methodLink RX9 112 yX9_write, Cond.instanceMethod yX9_write, Cond.selects RX9 yX9_write yX9_write, Cond.code yX9_write cX9_write 4 none, Cond.constant RX9 64 (57344), Cond.fieldLink RX9 7 "UnibusMachineModel" "memory" "[I", Cond.constant RX9 94 (57375), Cond.fieldLink RX9 30 "UnibusMachineModel" "enabled" "[Z", Cond.fieldLink RX9 75 "UnibusMachineModel" "many" "I", Cond.fieldLink RX9 78 "UnibusMachineModel" "from" "I", Cond.fieldLink RX9 81 "UnibusMachineModel" "sector" "I", Cond.fieldLink RX9 84 "UnibusMachineModel" "status" "I", Cond.methodLink RX9 90 yX9_at, Cond.instanceMethod yX9_at]
def wsX9_setWord_r2 : List Cond := [Cond.selects RX9 yX9_at yX9_at, Cond.code yX9_at cX9_at 3 (some .int), Cond.fieldLink RX9 72 "UnibusMachineModel" "typed" "I", Cond.methodLink RX9 68 yX9_statusOf, Cond.instanceMethod yX9_statusOf, Cond.selects RX9 yX9_statusOf yX9_statusOf, Cond.code yX9_statusOf cX9_statusOf 2 (some .int), Cond.fieldLink RX9 26 "UnibusMachineModel" "ready" "[Z", Cond.fieldLink RX9 56 "UnibusMachineModel" "writes" "Z", Cond.fieldLink RX9 60 "UnibusMachineModel" "failed" "Z", Cond.constant RX9 63 (32768), Cond.methodLink RX9 52 yX9_bit, Cond.static yX9_bit, Cond.code yX9_bit cX9_bit 2 (some .int), Cond.methodLink RX9 95 yX9_print, Cond.instanceMethod yX9_print, Cond.selects RX9 yX9_print yX9_print, Cond.code yX9_print cX9_print 2 none, Cond.fieldLink RX9 102 "UnibusMachineModel" "printing" "I", Cond.fieldLink RX9 39 "UnibusMachineModel" "busy" "[I", Cond.methodLink RX9 99 yX9_order, Cond.instanceMethod yX9_order, Cond.selects RX9 yX9_order yX9_order, Cond.code yX9_order cX9_order 2 none]
def wsX9_setWord : List Cond := .code yX9_setWord cX9_setWord 4 none :: ((wsX9_setWord_r1 ++ wsX9_setWord_r2) ++ wsX90)
def wsX9_settle : List Cond := .code yX9_settle cX9_settle 3 none :: ([.fieldLink RX9 84 "UnibusMachineModel" "status" "I", .fieldLink RX9 116 "UnibusMachineModel" "mode" "I", .fieldLink RX9 19 "UnibusMachineModel" "reg" "[I", .fieldLink RX9 119 "UnibusMachineModel" "farStack" "I"] ++ wsX90)
def wsX9_put : List Cond := .code yX9_put cX9_put 3 none :: ([.fieldLink RX9 87 "UnibusMachineModel" "wrong" "I", .fieldLink RX9 19 "UnibusMachineModel" "reg" "[I", .constant RX9 122 (65535)] ++ wsX90)
def wsX9_push_r1 : List Cond := [Cond.fieldLink RX9 19 "UnibusMachineModel" "reg" "[I", Cond.fieldLink RX9 116 "UnibusMachineModel" "mode" "I", Cond.methodLink RX9 127 yX9_put, Cond.instanceMethod yX9_put, Cond.selects RX9 yX9_put yX9_put, Cond.initialized RX9, Cond.code yX9_put cX9_put 3 none, Cond.fieldLink RX9 87 "UnibusMachineModel" "wrong" "I", Cond.constant RX9 122 (65535), Cond.methodLink RX9 130 yX9_setWord, Cond.instanceMethod yX9_setWord, Cond.selects RX9 yX9_setWord yX9_setWord, Cond.code yX9_setWord cX9_setWord 4 none, Cond.methodLink RX9 105 yX9_mapped, Cond.instanceMethod yX9_mapped, Cond.selects RX9 yX9_mapped yX9_mapped, Cond.code yX9_mapped cX9_mapped 8 (some .int), Cond.fieldLink RX9 65 "UnibusMachineModel" "control" "I", Cond.fieldLink RX9 13 "UnibusMachineModel" "descriptor" "[I", Cond.fieldLink RX9 16 "UnibusMachineModel" "base" "[I", Cond.constant RX9 51 (65536), Cond.methodLink RX9 112 yX9_write, Cond.instanceMethod yX9_write, Cond.selects RX9 yX9_write yX9_write]
def wsX9_push_r2 : List Cond := [Cond.code yX9_write cX9_write 4 none, Cond.constant RX9 64 (57344), Cond.fieldLink RX9 7 "UnibusMachineModel" "memory" "[I", Cond.constant RX9 94 (57375), Cond.fieldLink RX9 30 "UnibusMachineModel" "enabled" "[Z", Cond.fieldLink RX9 75 "UnibusMachineModel" "many" "I", Cond.fieldLink RX9 78 "UnibusMachineModel" "from" "I", Cond.fieldLink RX9 81 "UnibusMachineModel" "sector" "I", Cond.fieldLink RX9 84 "UnibusMachineModel" "status" "I", Cond.methodLink RX9 90 yX9_at, Cond.instanceMethod yX9_at, Cond.selects RX9 yX9_at yX9_at, Cond.code yX9_at cX9_at 3 (some .int), Cond.fieldLink RX9 72 "UnibusMachineModel" "typed" "I", Cond.methodLink RX9 68 yX9_statusOf, Cond.instanceMethod yX9_statusOf, Cond.selects RX9 yX9_statusOf yX9_statusOf, Cond.code yX9_statusOf cX9_statusOf 2 (some .int), Cond.fieldLink RX9 26 "UnibusMachineModel" "ready" "[Z", Cond.fieldLink RX9 56 "UnibusMachineModel" "writes" "Z", Cond.fieldLink RX9 60 "UnibusMachineModel" "failed" "Z", Cond.constant RX9 63 (32768), Cond.methodLink RX9 52 yX9_bit, Cond.static yX9_bit]
def wsX9_push_r3 : List Cond := [Cond.code yX9_bit cX9_bit 2 (some .int), Cond.methodLink RX9 95 yX9_print, Cond.instanceMethod yX9_print, Cond.selects RX9 yX9_print yX9_print, Cond.code yX9_print cX9_print 2 none, Cond.fieldLink RX9 102 "UnibusMachineModel" "printing" "I", Cond.fieldLink RX9 39 "UnibusMachineModel" "busy" "[I", Cond.methodLink RX9 99 yX9_order, Cond.instanceMethod yX9_order, Cond.selects RX9 yX9_order yX9_order, Cond.code yX9_order cX9_order 2 none]
def wsX9_push : List Cond := .code yX9_push cX9_push 2 none :: ((wsX9_push_r1 ++ (wsX9_push_r2 ++ wsX9_push_r3)) ++ wsX90)
def wsX9_isWord : List Cond := .code yX9_isWord cX9_isWord 1 (some .boolean) :: ([.constant RX9 51 (65536)])
def wsX9_cell : List Cond := .code yX9_cell cX9_cell 1 (some .boolean) :: ([])
def wsX9_deposit : List Cond := .code yX9_deposit cX9_deposit 3 none :: ([.fieldLink RX9 48 "UnibusMachineModel" "thrown" "I", .fieldLink RX9 7 "UnibusMachineModel" "memory" "[I", .methodLink RX9 257 yX9_cell, .static yX9_cell, .initialized RX9, .code yX9_cell cX9_cell 1 (some .boolean), .methodLink RX9 260 yX9_isWord, .static yX9_isWord, .code yX9_isWord cX9_isWord 1 (some .boolean), .constant RX9 51 (65536)] ++ wsX90)
def wsX9_set : List Cond := .code yX9_set cX9_set 3 none :: ([.fieldLink RX9 48 "UnibusMachineModel" "thrown" "I", .fieldLink RX9 116 "UnibusMachineModel" "mode" "I", .fieldLink RX9 119 "UnibusMachineModel" "farStack" "I", .fieldLink RX9 19 "UnibusMachineModel" "reg" "[I", .methodLink RX9 266 yX9_out, .static yX9_out, .initialized RX9, .code yX9_out cX9_out 2 (some .boolean), .methodLink RX9 260 yX9_isWord, .static yX9_isWord, .code yX9_isWord cX9_isWord 1 (some .boolean), .constant RX9 51 (65536)] ++ wsX90)
def wsX9_start : List Cond := .code yX9_start cX9_start 2 none :: ([.fieldLink RX9 48 "UnibusMachineModel" "thrown" "I", .fieldLink RX9 84 "UnibusMachineModel" "status" "I", .fieldLink RX9 19 "UnibusMachineModel" "reg" "[I", .fieldLink RX9 22 "UnibusMachineModel" "state" "I", .methodLink RX9 260 yX9_isWord, .static yX9_isWord, .initialized RX9, .code yX9_isWord cX9_isWord 1 (some .boolean), .constant RX9 51 (65536), .methodLink RX9 170 yX9_settle, .instanceMethod yX9_settle, .selects RX9 yX9_settle yX9_settle, .code yX9_settle cX9_settle 3 none, .fieldLink RX9 116 "UnibusMachineModel" "mode" "I", .fieldLink RX9 119 "UnibusMachineModel" "farStack" "I"] ++ wsX90)
def wsL_deposit : List Cond := .codeWith yL_deposit cL_deposit 4 (some .int) [(0, 6, 9, 13)] :: ([.classLink RL 13 "java/lang/IllegalArgumentException", .methodLink RL 7 yX8_deposit, .instanceMethod yX8_deposit, .selects RX8 yX8_deposit yX8_deposit, .initialized RX8, .code yX8_deposit cX8_deposit 3 none, .classLink RX8 32 "java/lang/IllegalArgumentException", .initialized "java/lang/IllegalArgumentException", .fieldLink RX8 10 "UnibusMachine" "bus" "LUnibusMachine$Bus;", .fieldLink RX8 35 "UnibusMachine$Bus" "memory" "[I", .methodLink RX8 25 yX8_isMemory, .static yX8_isMemory, .code yX8_isMemory cX8_isMemory 1 (some .boolean), .methodLink RX8 29 yX8_isWord, .static yX8_isWord, .code yX8_isWord cX8_isWord 1 (some .boolean), .constant RX8 124 (65535)] ++ wsX80 ++ wsX00 ++ (vx_at0 RX8 34 "java/lang/IllegalArgumentException" ["java/lang/RuntimeException", "java/lang/Exception"]).filter goodWord)
def wsL_set : List Cond := .codeWith yL_set cL_set 4 (some .int) [(0, 6, 9, 13)] :: ([.classLink RL 13 "java/lang/IllegalArgumentException", .methodLink RL 19 yX8_set, .instanceMethod yX8_set, .selects RX8 yX8_set yX8_set, .initialized RX8, .code yX8_set cX8_set 3 none, .classLink RX8 32 "java/lang/IllegalArgumentException", .initialized "java/lang/IllegalArgumentException", .fieldLink RX8 21 "UnibusMachine" "processor" "LUnibusMachine$Processor;", .fieldLink RX8 43 "UnibusMachine$Processor" "otherStack" "I", .fieldLink RX8 47 "UnibusMachine$Processor" "registers" "[I", .methodLink RX8 29 yX8_isWord, .static yX8_isWord, .code yX8_isWord cX8_isWord 1 (some .boolean), .constant RX8 124 (65535), .methodLink RX8 39 yX6_mode, .instanceMethod yX6_mode, .selects RX6 yX6_mode yX6_mode, .initialized RX6, .code yX6_mode cX6_mode 1 (some .int), .fieldLink RX6 43 "UnibusMachine$Processor" "status" "LUnibusMachine$Status;", .fieldLink RX6 44 "UnibusMachine$Status" "now" "I"] ++ wsX80 ++ wsX60 ++ wsX70 ++ (vx_at0 RX8 34 "java/lang/IllegalArgumentException" ["java/lang/RuntimeException", "java/lang/Exception"]).filter goodWord)
def wsL_start_r1 : List Cond := [Cond.classLink RL 13 "java/lang/IllegalArgumentException", Cond.methodLink RL 25 yX8_start, Cond.instanceMethod yX8_start, Cond.selects RX8 yX8_start yX8_start, Cond.initialized RX8, Cond.code yX8_start cX8_start 2 none, Cond.classLink RX8 32 "java/lang/IllegalArgumentException", Cond.initialized "java/lang/IllegalArgumentException", Cond.fieldLink RX8 21 "UnibusMachine" "processor" "LUnibusMachine$Processor;", Cond.fieldLink RX8 47 "UnibusMachine$Processor" "registers" "[I", Cond.fieldLink RX8 63 "UnibusMachine$Processor" "halted" "I", Cond.fieldLink RX8 66 "UnibusMachine$Processor" "waiting" "Z", Cond.methodLink RX8 29 yX8_isWord, Cond.static yX8_isWord, Cond.code yX8_isWord cX8_isWord 1 (some .boolean), Cond.constant RX8 124 (65535), Cond.methodLink RX8 59 yX6_takeStatus, Cond.instanceMethod yX6_takeStatus, Cond.selects RX6 yX6_takeStatus yX6_takeStatus, Cond.initialized RX6, Cond.code yX6_takeStatus cX6_takeStatus 3 none, Cond.fieldLink RX6 43 "UnibusMachine$Processor" "status" "LUnibusMachine$Status;", Cond.fieldLink RX6 44 "UnibusMachine$Status" "now" "I", Cond.fieldLink RX6 7 "UnibusMachine$Processor" "registers" "[I"]
def wsL_start_r2 : List Cond := [Cond.fieldLink RX6 13 "UnibusMachine$Processor" "otherStack" "I"]
def wsL_start : List Cond := .codeWith yL_start cL_start 3 (some .int) [(0, 5, 8, 13)] :: ((wsL_start_r1 ++ wsL_start_r2) ++ wsX80 ++ wsX60 ++ wsX70 ++ (vx_at0 RX8 34 "java/lang/IllegalArgumentException" ["java/lang/RuntimeException", "java/lang/Exception"]).filter goodWord)
def wsX9_goOn_r1 : List Cond := [Cond.fieldLink RX9 39 "UnibusMachineModel" "busy" "[I", Cond.fieldLink RX9 26 "UnibusMachineModel" "ready" "[Z", Cond.fieldLink RX9 30 "UnibusMachineModel" "enabled" "[Z", Cond.fieldLink RX9 36 "UnibusMachineModel" "wants" "[Z", Cond.fieldLink RX9 33 "UnibusMachineModel" "both" "[Z", Cond.fieldLink RX9 84 "UnibusMachineModel" "status" "I", Cond.fieldLink RX9 22 "UnibusMachineModel" "state" "I"]
def wsX9_goOn : List Cond := .code yX9_goOn cX9_goOn 5 none :: (wsX9_goOn_r1 ++ wsX90)
def wsX9_fetch_r1 : List Cond := [Cond.fieldLink RX9 19 "UnibusMachineModel" "reg" "[I", Cond.fieldLink RX9 116 "UnibusMachineModel" "mode" "I", Cond.methodLink RX9 123 yX9_wordAt, Cond.instanceMethod yX9_wordAt, Cond.selects RX9 yX9_wordAt yX9_wordAt, Cond.initialized RX9, Cond.code yX9_wordAt cX9_wordAt 3 (some .int), Cond.fieldLink RX9 87 "UnibusMachineModel" "wrong" "I", Cond.methodLink RX9 105 yX9_mapped, Cond.instanceMethod yX9_mapped, Cond.selects RX9 yX9_mapped yX9_mapped, Cond.code yX9_mapped cX9_mapped 8 (some .int), Cond.fieldLink RX9 65 "UnibusMachineModel" "control" "I", Cond.fieldLink RX9 13 "UnibusMachineModel" "descriptor" "[I", Cond.fieldLink RX9 16 "UnibusMachineModel" "base" "[I", Cond.constant RX9 51 (65536), Cond.methodLink RX9 109 yX9_read, Cond.instanceMethod yX9_read, Cond.selects RX9 yX9_read yX9_read, Cond.code yX9_read cX9_read 3 (some .int), Cond.constant RX9 93 (57426), Cond.fieldLink RX9 26 "UnibusMachineModel" "ready" "[Z", Cond.methodLink RX9 90 yX9_at, Cond.instanceMethod yX9_at]
def wsX9_fetch_r2 : List Cond := [Cond.selects RX9 yX9_at yX9_at, Cond.code yX9_at cX9_at 3 (some .int), Cond.fieldLink RX9 7 "UnibusMachineModel" "memory" "[I", Cond.constant RX9 64 (57344), Cond.fieldLink RX9 72 "UnibusMachineModel" "typed" "I", Cond.fieldLink RX9 75 "UnibusMachineModel" "many" "I", Cond.fieldLink RX9 78 "UnibusMachineModel" "from" "I", Cond.fieldLink RX9 81 "UnibusMachineModel" "sector" "I", Cond.fieldLink RX9 84 "UnibusMachineModel" "status" "I", Cond.methodLink RX9 68 yX9_statusOf, Cond.instanceMethod yX9_statusOf, Cond.selects RX9 yX9_statusOf yX9_statusOf, Cond.code yX9_statusOf cX9_statusOf 2 (some .int), Cond.fieldLink RX9 30 "UnibusMachineModel" "enabled" "[Z", Cond.fieldLink RX9 56 "UnibusMachineModel" "writes" "Z", Cond.fieldLink RX9 60 "UnibusMachineModel" "failed" "Z", Cond.constant RX9 63 (32768), Cond.methodLink RX9 52 yX9_bit, Cond.static yX9_bit, Cond.code yX9_bit cX9_bit 2 (some .int), Cond.methodLink RX9 127 yX9_put, Cond.instanceMethod yX9_put, Cond.selects RX9 yX9_put yX9_put, Cond.code yX9_put cX9_put 3 none]
def wsX9_fetch_r3 : List Cond := [Cond.constant RX9 122 (65535)]
def wsX9_fetch : List Cond := .code yX9_fetch cX9_fetch 2 (some .int) :: ((wsX9_fetch_r1 ++ (wsX9_fetch_r2 ++ wsX9_fetch_r3)) ++ wsX90)
def wsX9_step_r1 : List Cond := [Cond.fieldLink RX9 87 "UnibusMachineModel" "wrong" "I", Cond.methodLink RX9 134 yX9_fetch, Cond.instanceMethod yX9_fetch, Cond.selects RX9 yX9_fetch yX9_fetch, Cond.initialized RX9, Cond.code yX9_fetch cX9_fetch 2 (some .int), Cond.fieldLink RX9 19 "UnibusMachineModel" "reg" "[I", Cond.fieldLink RX9 116 "UnibusMachineModel" "mode" "I", Cond.methodLink RX9 123 yX9_wordAt, Cond.instanceMethod yX9_wordAt, Cond.selects RX9 yX9_wordAt yX9_wordAt, Cond.code yX9_wordAt cX9_wordAt 3 (some .int), Cond.methodLink RX9 105 yX9_mapped, Cond.instanceMethod yX9_mapped, Cond.selects RX9 yX9_mapped yX9_mapped, Cond.code yX9_mapped cX9_mapped 8 (some .int), Cond.fieldLink RX9 65 "UnibusMachineModel" "control" "I", Cond.fieldLink RX9 13 "UnibusMachineModel" "descriptor" "[I", Cond.fieldLink RX9 16 "UnibusMachineModel" "base" "[I", Cond.constant RX9 51 (65536), Cond.methodLink RX9 109 yX9_read, Cond.instanceMethod yX9_read, Cond.selects RX9 yX9_read yX9_read, Cond.code yX9_read cX9_read 3 (some .int)]
def wsX9_step_r2 : List Cond := [Cond.constant RX9 93 (57426), Cond.fieldLink RX9 26 "UnibusMachineModel" "ready" "[Z", Cond.methodLink RX9 90 yX9_at, Cond.instanceMethod yX9_at, Cond.selects RX9 yX9_at yX9_at, Cond.code yX9_at cX9_at 3 (some .int), Cond.fieldLink RX9 7 "UnibusMachineModel" "memory" "[I", Cond.constant RX9 64 (57344), Cond.fieldLink RX9 72 "UnibusMachineModel" "typed" "I", Cond.fieldLink RX9 75 "UnibusMachineModel" "many" "I", Cond.fieldLink RX9 78 "UnibusMachineModel" "from" "I", Cond.fieldLink RX9 81 "UnibusMachineModel" "sector" "I", Cond.fieldLink RX9 84 "UnibusMachineModel" "status" "I", Cond.methodLink RX9 68 yX9_statusOf, Cond.instanceMethod yX9_statusOf, Cond.selects RX9 yX9_statusOf yX9_statusOf, Cond.code yX9_statusOf cX9_statusOf 2 (some .int), Cond.fieldLink RX9 30 "UnibusMachineModel" "enabled" "[Z", Cond.fieldLink RX9 56 "UnibusMachineModel" "writes" "Z", Cond.fieldLink RX9 60 "UnibusMachineModel" "failed" "Z", Cond.constant RX9 63 (32768), Cond.methodLink RX9 52 yX9_bit, Cond.static yX9_bit, Cond.code yX9_bit cX9_bit 2 (some .int)]
def wsX9_step_r3 : List Cond := [Cond.methodLink RX9 127 yX9_put, Cond.instanceMethod yX9_put, Cond.selects RX9 yX9_put yX9_put, Cond.code yX9_put cX9_put 3 none, Cond.constant RX9 122 (65535)]
def wsX9_step : List Cond := .code yX9_step cX9_step 3 none :: ((wsX9_step_r1 ++ (wsX9_step_r2 ++ wsX9_step_r3)) ++ wsX90)
def wsX9_trap_r1 : List Cond := [Cond.fieldLink RX9 84 "UnibusMachineModel" "status" "I", Cond.fieldLink RX9 19 "UnibusMachineModel" "reg" "[I", Cond.fieldLink RX9 87 "UnibusMachineModel" "wrong" "I", Cond.fieldLink RX9 116 "UnibusMachineModel" "mode" "I", Cond.fieldLink RX9 22 "UnibusMachineModel" "state" "I", Cond.methodLink RX9 123 yX9_wordAt, Cond.instanceMethod yX9_wordAt, Cond.selects RX9 yX9_wordAt yX9_wordAt, Cond.initialized RX9, Cond.code yX9_wordAt cX9_wordAt 3 (some .int), Cond.methodLink RX9 105 yX9_mapped, Cond.instanceMethod yX9_mapped, Cond.selects RX9 yX9_mapped yX9_mapped, Cond.code yX9_mapped cX9_mapped 8 (some .int), Cond.fieldLink RX9 65 "UnibusMachineModel" "control" "I", Cond.fieldLink RX9 13 "UnibusMachineModel" "descriptor" "[I", Cond.fieldLink RX9 16 "UnibusMachineModel" "base" "[I", Cond.constant RX9 51 (65536), Cond.methodLink RX9 109 yX9_read, Cond.instanceMethod yX9_read, Cond.selects RX9 yX9_read yX9_read, Cond.code yX9_read cX9_read 3 (some .int), Cond.constant RX9 93 (57426), Cond.fieldLink RX9 26 "UnibusMachineModel" "ready" "[Z"]
def wsX9_trap_r2 : List Cond := [Cond.methodLink RX9 90 yX9_at, Cond.instanceMethod yX9_at, Cond.selects RX9 yX9_at yX9_at, Cond.code yX9_at cX9_at 3 (some .int), Cond.fieldLink RX9 7 "UnibusMachineModel" "memory" "[I", Cond.constant RX9 64 (57344), Cond.fieldLink RX9 72 "UnibusMachineModel" "typed" "I", Cond.fieldLink RX9 75 "UnibusMachineModel" "many" "I", Cond.fieldLink RX9 78 "UnibusMachineModel" "from" "I", Cond.fieldLink RX9 81 "UnibusMachineModel" "sector" "I", Cond.methodLink RX9 68 yX9_statusOf, Cond.instanceMethod yX9_statusOf, Cond.selects RX9 yX9_statusOf yX9_statusOf, Cond.code yX9_statusOf cX9_statusOf 2 (some .int), Cond.fieldLink RX9 30 "UnibusMachineModel" "enabled" "[Z", Cond.fieldLink RX9 56 "UnibusMachineModel" "writes" "Z", Cond.fieldLink RX9 60 "UnibusMachineModel" "failed" "Z", Cond.constant RX9 63 (32768), Cond.methodLink RX9 52 yX9_bit, Cond.static yX9_bit, Cond.code yX9_bit cX9_bit 2 (some .int), Cond.methodLink RX9 170 yX9_settle, Cond.instanceMethod yX9_settle, Cond.selects RX9 yX9_settle yX9_settle]
def wsX9_trap_r3 : List Cond := [Cond.code yX9_settle cX9_settle 3 none, Cond.fieldLink RX9 119 "UnibusMachineModel" "farStack" "I", Cond.methodLink RX9 210 yX9_push, Cond.instanceMethod yX9_push, Cond.selects RX9 yX9_push yX9_push, Cond.code yX9_push cX9_push 2 none, Cond.methodLink RX9 127 yX9_put, Cond.instanceMethod yX9_put, Cond.selects RX9 yX9_put yX9_put, Cond.code yX9_put cX9_put 3 none, Cond.constant RX9 122 (65535), Cond.methodLink RX9 130 yX9_setWord, Cond.instanceMethod yX9_setWord, Cond.selects RX9 yX9_setWord yX9_setWord, Cond.code yX9_setWord cX9_setWord 4 none, Cond.methodLink RX9 112 yX9_write, Cond.instanceMethod yX9_write, Cond.selects RX9 yX9_write yX9_write, Cond.code yX9_write cX9_write 4 none, Cond.constant RX9 94 (57375), Cond.methodLink RX9 95 yX9_print, Cond.instanceMethod yX9_print, Cond.selects RX9 yX9_print yX9_print, Cond.code yX9_print cX9_print 2 none]
def wsX9_trap_r4 : List Cond := [Cond.fieldLink RX9 102 "UnibusMachineModel" "printing" "I", Cond.fieldLink RX9 39 "UnibusMachineModel" "busy" "[I", Cond.methodLink RX9 99 yX9_order, Cond.instanceMethod yX9_order, Cond.selects RX9 yX9_order yX9_order, Cond.code yX9_order cX9_order 2 none]
def wsX9_trap : List Cond := .code yX9_trap cX9_trap 6 none :: ((wsX9_trap_r1 ++ (wsX9_trap_r2 ++ (wsX9_trap_r3 ++ wsX9_trap_r4))) ++ wsX90)
def wsX9_run_r1 : List Cond := [Cond.fieldLink RX9 22 "UnibusMachineModel" "state" "I", Cond.fieldLink RX9 48 "UnibusMachineModel" "thrown" "I", Cond.fieldLink RX9 87 "UnibusMachineModel" "wrong" "I", Cond.methodLink RX9 270 yX9_step, Cond.instanceMethod yX9_step, Cond.selects RX9 yX9_step yX9_step, Cond.initialized RX9, Cond.code yX9_step cX9_step 3 none, Cond.methodLink RX9 134 yX9_fetch, Cond.instanceMethod yX9_fetch, Cond.selects RX9 yX9_fetch yX9_fetch, Cond.code yX9_fetch cX9_fetch 2 (some .int), Cond.fieldLink RX9 19 "UnibusMachineModel" "reg" "[I", Cond.fieldLink RX9 116 "UnibusMachineModel" "mode" "I", Cond.methodLink RX9 123 yX9_wordAt, Cond.instanceMethod yX9_wordAt, Cond.selects RX9 yX9_wordAt yX9_wordAt, Cond.code yX9_wordAt cX9_wordAt 3 (some .int), Cond.methodLink RX9 105 yX9_mapped, Cond.instanceMethod yX9_mapped, Cond.selects RX9 yX9_mapped yX9_mapped, Cond.code yX9_mapped cX9_mapped 8 (some .int), Cond.fieldLink RX9 65 "UnibusMachineModel" "control" "I", Cond.fieldLink RX9 13 "UnibusMachineModel" "descriptor" "[I"]
def wsX9_run_r2 : List Cond := [Cond.fieldLink RX9 16 "UnibusMachineModel" "base" "[I", Cond.constant RX9 51 (65536), Cond.methodLink RX9 109 yX9_read, Cond.instanceMethod yX9_read, Cond.selects RX9 yX9_read yX9_read, Cond.code yX9_read cX9_read 3 (some .int), Cond.constant RX9 93 (57426), Cond.fieldLink RX9 26 "UnibusMachineModel" "ready" "[Z", Cond.methodLink RX9 90 yX9_at, Cond.instanceMethod yX9_at, Cond.selects RX9 yX9_at yX9_at, Cond.code yX9_at cX9_at 3 (some .int), Cond.fieldLink RX9 7 "UnibusMachineModel" "memory" "[I", Cond.constant RX9 64 (57344), Cond.fieldLink RX9 72 "UnibusMachineModel" "typed" "I", Cond.fieldLink RX9 75 "UnibusMachineModel" "many" "I", Cond.fieldLink RX9 78 "UnibusMachineModel" "from" "I", Cond.fieldLink RX9 81 "UnibusMachineModel" "sector" "I", Cond.fieldLink RX9 84 "UnibusMachineModel" "status" "I", Cond.methodLink RX9 68 yX9_statusOf, Cond.instanceMethod yX9_statusOf, Cond.selects RX9 yX9_statusOf yX9_statusOf, Cond.code yX9_statusOf cX9_statusOf 2 (some .int), Cond.fieldLink RX9 30 "UnibusMachineModel" "enabled" "[Z"]
def wsX9_run_r3 : List Cond := [Cond.fieldLink RX9 56 "UnibusMachineModel" "writes" "Z", Cond.fieldLink RX9 60 "UnibusMachineModel" "failed" "Z", Cond.constant RX9 63 (32768), Cond.methodLink RX9 52 yX9_bit, Cond.static yX9_bit, Cond.code yX9_bit cX9_bit 2 (some .int), Cond.methodLink RX9 127 yX9_put, Cond.instanceMethod yX9_put, Cond.selects RX9 yX9_put yX9_put, Cond.code yX9_put cX9_put 3 none, Cond.constant RX9 122 (65535), Cond.methodLink RX9 112 yX9_write, Cond.instanceMethod yX9_write, Cond.selects RX9 yX9_write yX9_write, Cond.code yX9_write cX9_write 4 none, Cond.constant RX9 94 (57375), Cond.methodLink RX9 95 yX9_print, Cond.instanceMethod yX9_print, Cond.selects RX9 yX9_print yX9_print, Cond.code yX9_print cX9_print 2 none, Cond.fieldLink RX9 102 "UnibusMachineModel" "printing" "I", Cond.fieldLink RX9 39 "UnibusMachineModel" "busy" "[I", Cond.methodLink RX9 99 yX9_order, Cond.instanceMethod yX9_order]
def wsX9_run_r4 : List Cond := [Cond.selects RX9 yX9_order yX9_order, Cond.code yX9_order cX9_order 2 none, Cond.methodLink RX9 130 yX9_setWord, Cond.instanceMethod yX9_setWord, Cond.selects RX9 yX9_setWord yX9_setWord, Cond.code yX9_setWord cX9_setWord 4 none, Cond.fieldLink RX9 119 "UnibusMachineModel" "farStack" "I", Cond.methodLink RX9 210 yX9_push, Cond.instanceMethod yX9_push, Cond.selects RX9 yX9_push yX9_push, Cond.code yX9_push cX9_push 2 none, Cond.methodLink RX9 170 yX9_settle, Cond.instanceMethod yX9_settle, Cond.selects RX9 yX9_settle yX9_settle, Cond.code yX9_settle cX9_settle 3 none, Cond.methodLink RX9 248 yX9_trap, Cond.instanceMethod yX9_trap, Cond.selects RX9 yX9_trap yX9_trap, Cond.code yX9_trap cX9_trap 6 none, Cond.methodLink RX9 273 yX9_goOn, Cond.instanceMethod yX9_goOn, Cond.selects RX9 yX9_goOn yX9_goOn, Cond.code yX9_goOn cX9_goOn 5 none, Cond.fieldLink RX9 36 "UnibusMachineModel" "wants" "[Z"]
def wsX9_run_r5 : List Cond := [Cond.fieldLink RX9 33 "UnibusMachineModel" "both" "[Z"]
def wsX9_run : List Cond := .code yX9_run cX9_run 3 (some .int) :: ((wsX9_run_r1 ++ (wsX9_run_r2 ++ (wsX9_run_r3 ++ (wsX9_run_r4 ++ wsX9_run_r5)))) ++ wsX90)
def wsL_run_r1 : List Cond := [Cond.methodLink RL 29 yX8_run, Cond.instanceMethod yX8_run, Cond.selects RX8 yX8_run yX8_run, Cond.initialized RX8, Cond.code yX8_run cX8_run 3 (some .int), Cond.classLink RX8 32 "java/lang/IllegalArgumentException", Cond.initialized "java/lang/IllegalArgumentException", Cond.classLink RX8 70 "java/lang/IllegalStateException", Cond.initialized "java/lang/IllegalStateException", Cond.fieldLink RX8 21 "UnibusMachine" "processor" "LUnibusMachine$Processor;", Cond.fieldLink RX8 63 "UnibusMachine$Processor" "halted" "I", Cond.fieldLink RX8 10 "UnibusMachine" "bus" "LUnibusMachine$Bus;", Cond.methodLink RX8 73 yX6_perform, Cond.instanceMethod yX6_perform, Cond.selects RX6 yX6_perform yX6_perform, Cond.initialized RX6, Cond.codeWith yX6_perform cX6_perform 3 none [(17, 57, 60, 65)], Cond.classLink RX6 65 "java/lang/UnsupportedOperationException", Cond.fieldLink RX6 33 "UnibusMachine$Processor" "bus" "LUnibusMachine$Bus;", Cond.fieldLink RX6 20 "UnibusMachine$Processor" "waiting" "Z", Cond.fieldLink RX6 7 "UnibusMachine$Processor" "registers" "[I", Cond.constant RX6 60 (65535), Cond.fieldLink RX6 24 "UnibusMachine$Processor" "vector" "I", Cond.methodLink RX6 49 yX0_nextInstruction]
def wsL_run_r2 : List Cond := [Cond.instanceMethod yX0_nextInstruction, Cond.selects RX0 yX0_nextInstruction yX0_nextInstruction, Cond.initialized RX0, Cond.code yX0_nextInstruction cX0_nextInstruction 1 none, Cond.fieldLink RX0 37 "UnibusMachine$Bus" "printer" "LUnibusMachine$Printer;", Cond.fieldLink RX0 108 "UnibusMachine$Printer" "fresh" "Z", Cond.fieldLink RX0 44 "UnibusMachine$Bus" "drive" "LUnibusMachine$Drive;", Cond.fieldLink RX0 112 "UnibusMachine$Drive" "fresh" "Z", Cond.methodLink RX6 52 yX6_mode, Cond.instanceMethod yX6_mode, Cond.selects RX6 yX6_mode yX6_mode, Cond.code yX6_mode cX6_mode 1 (some .int), Cond.fieldLink RX6 43 "UnibusMachine$Processor" "status" "LUnibusMachine$Status;", Cond.fieldLink RX6 44 "UnibusMachine$Status" "now" "I", Cond.methodLink RX6 56 yX6_readWord, Cond.instanceMethod yX6_readWord, Cond.selects RX6 yX6_readWord yX6_readWord, Cond.code yX6_readWord cX6_readWord 4 (some .int), Cond.methodLink RX6 112 yX6_stop, Cond.instanceMethod yX6_stop, Cond.selects RX6 yX6_stop yX6_stop, Cond.code yX6_stop cX6_stop 2 none, Cond.initialized "java/lang/UnsupportedOperationException", Cond.methodLink RX6 115 yX6_place]
def wsL_run_r3 : List Cond := [Cond.instanceMethod yX6_place, Cond.selects RX6 yX6_place yX6_place, Cond.code yX6_place cX6_place 5 (some .int), Cond.fieldLink RX6 132 "UnibusMachine$Bus" "map" "LUnibusMachine$PageMap;", Cond.methodLink RX6 136 yX4_locate, Cond.instanceMethod yX4_locate, Cond.selects RX4 yX4_locate yX4_locate, Cond.initialized RX4, Cond.code yX4_locate cX4_locate 9 (some .int), Cond.fieldLink RX4 16 "UnibusMachine$PageMap" "control" "I", Cond.fieldLink RX4 9 "UnibusMachine$PageMap" "descriptors" "[I", Cond.constant RX4 20 (32768), Cond.fieldLink RX4 13 "UnibusMachine$PageMap" "bases" "[I", Cond.constant RX4 21 (65535), Cond.constant RX4 22 (57344), Cond.methodLink RX6 119 yX0_read, Cond.instanceMethod yX0_read, Cond.selects RX0 yX0_read yX0_read, Cond.code yX0_read cX0_read 3 (some .int), Cond.constant RX0 91 (57426), Cond.fieldLink RX0 30 "UnibusMachine$Bus" "keyboard" "LUnibusMachine$Keyboard;", Cond.fieldLink RX0 61 "UnibusMachine$Keyboard" "bits" "I", Cond.sameField "UnibusMachine$Keyboard" "UnibusMachine$Line" "bits" "I", Cond.methodLink RX0 87 yX0_peek]
def wsL_run_r4 : List Cond := [Cond.instanceMethod yX0_peek, Cond.selects RX0 yX0_peek yX0_peek, Cond.code yX0_peek cX0_peek 2 (some .int), Cond.fieldLink RX0 9 "UnibusMachine$Bus" "memory" "[I", Cond.constant RX0 48 (57344), Cond.constant RX0 49 (57376), Cond.fieldLink RX0 16 "UnibusMachine$Bus" "map" "LUnibusMachine$PageMap;", Cond.fieldLink RX0 50 "UnibusMachine$PageMap" "descriptors" "[I", Cond.constant RX0 53 (57408), Cond.fieldLink RX0 54 "UnibusMachine$PageMap" "bases" "[I", Cond.fieldLink RX0 57 "UnibusMachine$PageMap" "control" "I", Cond.fieldLink RX0 64 "UnibusMachine$Keyboard" "character" "I", Cond.fieldLink RX0 67 "UnibusMachine$Printer" "bits" "I", Cond.sameField "UnibusMachine$Printer" "UnibusMachine$Line" "bits" "I", Cond.fieldLink RX0 68 "UnibusMachine$Drive" "bits" "I", Cond.sameField "UnibusMachine$Drive" "UnibusMachine$Line" "bits" "I", Cond.fieldLink RX0 69 "UnibusMachine$Drive" "writing" "I", Cond.fieldLink RX0 72 "UnibusMachine$Drive" "wrong" "I", Cond.fieldLink RX0 75 "UnibusMachine$Drive" "count" "I", Cond.fieldLink RX0 78 "UnibusMachine$Drive" "address" "I", Cond.fieldLink RX0 81 "UnibusMachine$Drive" "sector" "I", Cond.fieldLink RX0 23 "UnibusMachine$Bus" "status" "LUnibusMachine$Status;", Cond.fieldLink RX0 84 "UnibusMachine$Status" "now" "I", Cond.methodLink RX0 94 ⟨"UnibusMachine$Keyboard", "become", "(I)V"⟩]
def wsL_run_r5 : List Cond := [Cond.sameMethod "UnibusMachine$Keyboard" "UnibusMachine$Line" "become" "(I)V", Cond.selects RX2 ⟨"UnibusMachine$Keyboard", "become", "(I)V"⟩ yX3_become, Cond.instanceMethod yX3_become, Cond.initialized RX3, Cond.code yX3_become cX3_become 2 none, Cond.fieldLink RX3 13 "UnibusMachine$Line" "wanting" "Z", Cond.fieldLink RX3 9 "UnibusMachine$Line" "bits" "I", Cond.methodLink RX6 141 yX6_fall, Cond.instanceMethod yX6_fall, Cond.selects RX6 yX6_fall yX6_fall, Cond.code yX6_fall cX6_fall 3 (some .int), Cond.methodLink RX6 123 yX0_write, Cond.instanceMethod yX0_write, Cond.selects RX0 yX0_write yX0_write, Cond.code yX0_write cX0_write 3 (some .boolean), Cond.constant RX0 98 (57375), Cond.fieldLink RX0 105 "UnibusMachine$Status" "written" "I", Cond.methodLink RX0 99 ⟨"UnibusMachine$Printer", "become", "(I)V"⟩, Cond.sameMethod "UnibusMachine$Printer" "UnibusMachine$Line" "become" "(I)V", Cond.selects RX5 ⟨"UnibusMachine$Printer", "become", "(I)V"⟩ yX3_become, Cond.methodLink RX0 100 yX5_begin, Cond.instanceMethod yX5_begin, Cond.selects RX5 yX5_begin yX5_begin, Cond.initialized RX5]
def wsL_run_r6 : List Cond := [Cond.code yX5_begin cX5_begin 2 none, Cond.fieldLink RX5 17 "UnibusMachine$Printer" "character" "I", Cond.fieldLink RX5 20 "UnibusMachine$Printer" "left" "I", Cond.fieldLink RX5 23 "UnibusMachine$Printer" "fresh" "Z", Cond.fieldLink RX5 27 "UnibusMachine$Printer" "bits" "I", Cond.fieldLink RX5 30 "UnibusMachine$Printer" "wanting" "Z", Cond.sameField "UnibusMachine$Printer" "UnibusMachine$Line" "wanting" "Z", Cond.methodLink RX0 103 yX1_begin, Cond.instanceMethod yX1_begin, Cond.selects RX1 yX1_begin yX1_begin, Cond.initialized RX1, Cond.code yX1_begin cX1_begin 2 none, Cond.fieldLink RX1 29 "UnibusMachine$Drive" "left" "I", Cond.fieldLink RX1 32 "UnibusMachine$Drive" "fresh" "Z", Cond.fieldLink RX1 17 "UnibusMachine$Drive" "wrong" "I", Cond.fieldLink RX1 36 "UnibusMachine$Drive" "bits" "I", Cond.fieldLink RX1 39 "UnibusMachine$Drive" "wanting" "Z", Cond.sameField "UnibusMachine$Drive" "UnibusMachine$Line" "wanting" "Z", Cond.methodLink RX0 104 ⟨"UnibusMachine$Drive", "become", "(I)V"⟩, Cond.sameMethod "UnibusMachine$Drive" "UnibusMachine$Line" "become" "(I)V", Cond.selects RX1 ⟨"UnibusMachine$Drive", "become", "(I)V"⟩ yX3_become, Cond.methodLink RX6 144 yX6_writeWord, Cond.instanceMethod yX6_writeWord, Cond.selects RX6 yX6_writeWord yX6_writeWord]
def wsL_run_r7 : List Cond := [Cond.code yX6_writeWord cX6_writeWord 4 none, Cond.fieldLink RX6 27 "UnibusMachine$Processor" "named" "I", Cond.fieldLink RX6 30 "UnibusMachine$Processor" "flags" "I", Cond.methodLink RX6 108 yX6_push, Cond.instanceMethod yX6_push, Cond.selects RX6 yX6_push yX6_push, Cond.code yX6_push cX6_push 2 none, Cond.methodLink RX6 76 yX6_takeStatus, Cond.instanceMethod yX6_takeStatus, Cond.selects RX6 yX6_takeStatus yX6_takeStatus, Cond.code yX6_takeStatus cX6_takeStatus 3 none, Cond.fieldLink RX6 13 "UnibusMachine$Processor" "otherStack" "I", Cond.fieldLink RX6 17 "UnibusMachine$Processor" "halted" "I", Cond.methodLink RX5 33 ⟨"UnibusMachine$Printer", "become", "(I)V"⟩, Cond.methodLink RX1 46 ⟨"UnibusMachine$Drive", "become", "(I)V"⟩, Cond.methodLink RX6 67 yX6_enter, Cond.instanceMethod yX6_enter, Cond.selects RX6 yX6_enter yX6_enter, Cond.codeWith yX6_enter cX6_enter 3 none [(0, 5, 8, 65)], Cond.methodLink RX6 105 yX6_trap, Cond.instanceMethod yX6_trap, Cond.selects RX6 yX6_trap yX6_trap, Cond.code yX6_trap cX6_trap 6 none, Cond.methodLink RX6 70 yX6_settle]
def wsL_run_r8 : List Cond := [Cond.instanceMethod yX6_settle, Cond.selects RX6 yX6_settle yX6_settle, Cond.code yX6_settle cX6_settle 2 none, Cond.fieldLink RX6 73 "UnibusMachine$Status" "written" "I", Cond.methodLink RX8 76 yX0_goOn, Cond.instanceMethod yX0_goOn, Cond.selects RX0 yX0_goOn yX0_goOn, Cond.code yX0_goOn cX0_goOn 1 none, Cond.methodLink RX0 113 yX5_goOn, Cond.instanceMethod yX5_goOn, Cond.selects RX5 yX5_goOn yX5_goOn, Cond.code yX5_goOn cX5_goOn 1 none, Cond.fieldLink RX5 9 "UnibusMachine$Printer" "paper" "[I", Cond.fieldLink RX5 13 "UnibusMachine$Printer" "count" "I", Cond.methodLink RX0 116 yX1_goOn, Cond.instanceMethod yX1_goOn, Cond.selects RX1 yX1_goOn yX1_goOn, Cond.code yX1_goOn cX1_goOn 2 none, Cond.methodLink RX1 42 yX1_transfer, Cond.instanceMethod yX1_transfer, Cond.selects RX1 yX1_transfer yX1_transfer, Cond.code yX1_transfer cX1_transfer 5 none, Cond.fieldLink RX1 20 "UnibusMachine$Drive" "count" "I", Cond.fieldLink RX1 23 "UnibusMachine$Drive" "address" "I"]
def wsL_run_r9 : List Cond := [Cond.constant RX1 52 (32768), Cond.fieldLink RX1 26 "UnibusMachine$Drive" "sector" "I", Cond.fieldLink RX1 13 "UnibusMachine$Drive" "writing" "I", Cond.fieldLink RX1 9 "UnibusMachine$Drive" "words" "[I", Cond.methodLink RX8 79 yX6_lookForInterrupt, Cond.instanceMethod yX6_lookForInterrupt, Cond.selects RX6 yX6_lookForInterrupt yX6_lookForInterrupt, Cond.code yX6_lookForInterrupt cX6_lookForInterrupt 4 none, Cond.fieldLink RX6 79 "UnibusMachine$Bus" "drive" "LUnibusMachine$Drive;", Cond.fieldLink RX6 83 "UnibusMachine$Drive" "wanting" "Z", Cond.fieldLink RX6 88 "UnibusMachine$Bus" "keyboard" "LUnibusMachine$Keyboard;", Cond.fieldLink RX6 92 "UnibusMachine$Keyboard" "wanting" "Z", Cond.sameField "UnibusMachine$Keyboard" "UnibusMachine$Line" "wanting" "Z", Cond.fieldLink RX6 95 "UnibusMachine$Bus" "printer" "LUnibusMachine$Printer;", Cond.fieldLink RX6 99 "UnibusMachine$Printer" "wanting" "Z", Cond.fieldLink RX6 102 "UnibusMachine$Line" "wanting" "Z"]
def wsL_run : List Cond := .codeWith yL_run cL_run 4 (some .int) [(0, 9, 12, 13), (0, 9, 15, 32)] :: ((wsL_run_r1 ++ (wsL_run_r2 ++ (wsL_run_r3 ++ (wsL_run_r4 ++ (wsL_run_r5 ++ (wsL_run_r6 ++ (wsL_run_r7 ++ (wsL_run_r8 ++ wsL_run_r9)))))))) ++ wsX80 ++ wsX60 ++ wsX00 ++ wsX50 ++ wsX10 ++ wsX70 ++ wsX40 ++ wsX20 ++ (vx_at0 RX8 34 "java/lang/IllegalArgumentException" ["java/lang/RuntimeException", "java/lang/Exception"]).filter goodWord ++ (vx_at0 RX8 72 "java/lang/IllegalStateException" ["java/lang/RuntimeException", "java/lang/Exception"]).filter goodWord ++ (vx_at0 RX6 111 "java/lang/UnsupportedOperationException" ["java/lang/RuntimeException", "java/lang/Exception"]).filter goodWord)
theorem fz_all {f : Nat → Int32} {k : Nat} {v : Int32} (h : ∀ i : Nat, 0 ≤ (f i).toInt) (hv : 0 ≤ v.toInt) : ∀ i : Nat, 0 ≤ (upd f k v i).toInt := by
  intro i
  unfold upd
  split
  · exact hv
  · exact h i
set_option maxRecDepth 20000 in
theorem ggX0_init_X4_init : GoodIn wsX0_init wsX4_init := goodIn_r _ [27, 28, 2, 3, 4, 29, 30, 31, 75, 76, 77] (by decide +kernel) (by decide +kernel)
set_option maxRecDepth 20000 in
theorem gX0_init_X4_init_n15 : GoodIn wsX0_init (wsX4_init) := ggX0_init_X4_init
set_option maxRecDepth 20000 in
theorem ggX0_init_X7_init : GoodIn wsX0_init wsX7_init := goodIn_r _ [33, 34, 2, 3, 35, 36, 78, 79] (by decide +kernel) (by decide +kernel)
set_option maxRecDepth 20000 in
theorem gX0_init_X7_init_n22 : GoodIn wsX0_init (wsX7_init) := ggX0_init_X7_init
set_option maxRecDepth 20000 in
theorem ggX0_init_X2_init : GoodIn wsX0_init wsX2_init := goodIn_r _ [38, 39, 40, 41, 42, 43, 2, 3, 44, 45, 80, 81, 82, 90, 91, 92, 93, 94, 95, 96, 97, 98, 99, 83, 84, 85, 86, 87, 88, 89] (by decide +kernel) (by decide +kernel)
set_option maxRecDepth 20000 in
theorem gX0_init_X2_init_n29 : GoodIn wsX0_init (wsX2_init) := ggX0_init_X2_init
set_option maxRecDepth 20000 in
theorem ggX0_init_X5_init : GoodIn wsX0_init wsX5_init := goodIn_r _ [48, 4, 49, 50, 51, 52, 53, 54, 55, 40, 41, 42, 43, 2, 3, 44, 45, 83, 84, 85, 86, 87, 88, 89, 90, 91, 92, 93, 94, 95, 96, 97, 98, 99, 80, 81, 82] (by decide +kernel) (by decide +kernel)
set_option maxRecDepth 20000 in
theorem gX0_init_X5_init : GoodIn wsX0_init (wsX5_init) := ggX0_init_X5_init
set_option maxRecDepth 20000 in
theorem ggX0_init_X1_init : GoodIn wsX0_init wsX1_init := goodIn_r _ [58, 4, 59, 60, 61, 62, 63, 64, 65, 66, 67, 68, 40, 41, 42, 43, 2, 3, 44, 45, 90, 91, 92, 93, 94, 95, 96, 97, 98, 99, 80, 81, 82, 83, 84, 85, 86, 87, 88, 89] (by decide +kernel) (by decide +kernel)
set_option maxRecDepth 20000 in
theorem gX0_init_X1_init : GoodIn wsX0_init (wsX1_init) := ggX0_init_X1_init
theorem dX0_init_0 : decode cX0_init 0 = .ok (.aload_n 0, 1) := by decide +kernel
theorem dX0_init_1 : decode cX0_init 1 = .ok (.invokespecial 1, 3) := by decide +kernel
theorem dX0_init_4 : decode cX0_init 4 = .ok (.aload_n 0, 1) := by decide +kernel
theorem dX0_init_5 : decode cX0_init 5 = .ok (.sipush 512, 3) := by decide +kernel
theorem dX0_init_8 : decode cX0_init 8 = .ok (.newarray .int, 2) := by decide +kernel
theorem dX0_init_10 : decode cX0_init 10 = .ok (.putfield 9, 3) := by decide +kernel
theorem dX0_init_13 : decode cX0_init 13 = .ok (.aload_n 0, 1) := by decide +kernel
theorem dX0_init_14 : decode cX0_init 14 = .ok (.new 13, 3) := by decide +kernel
theorem dX0_init_17 : decode cX0_init 17 = .ok (.dup, 1) := by decide +kernel
theorem dX0_init_18 : decode cX0_init 18 = .ok (.invokespecial 15, 3) := by decide +kernel
theorem dX0_init_21 : decode cX0_init 21 = .ok (.putfield 16, 3) := by decide +kernel
theorem dX0_init_24 : decode cX0_init 24 = .ok (.aload_n 0, 1) := by decide +kernel
theorem dX0_init_25 : decode cX0_init 25 = .ok (.new 20, 3) := by decide +kernel
theorem dX0_init_28 : decode cX0_init 28 = .ok (.dup, 1) := by decide +kernel
theorem dX0_init_29 : decode cX0_init 29 = .ok (.invokespecial 22, 3) := by decide +kernel
theorem dX0_init_32 : decode cX0_init 32 = .ok (.putfield 23, 3) := by decide +kernel
theorem dX0_init_35 : decode cX0_init 35 = .ok (.aload_n 0, 1) := by decide +kernel
theorem dX0_init_36 : decode cX0_init 36 = .ok (.new 27, 3) := by decide +kernel
theorem dX0_init_39 : decode cX0_init 39 = .ok (.dup, 1) := by decide +kernel
theorem dX0_init_40 : decode cX0_init 40 = .ok (.invokespecial 29, 3) := by decide +kernel
theorem dX0_init_43 : decode cX0_init 43 = .ok (.putfield 30, 3) := by decide +kernel
theorem dX0_init_46 : decode cX0_init 46 = .ok (.aload_n 0, 1) := by decide +kernel
theorem dX0_init_47 : decode cX0_init 47 = .ok (.new 34, 3) := by decide +kernel
theorem dX0_init_50 : decode cX0_init 50 = .ok (.dup, 1) := by decide +kernel
theorem dX0_init_51 : decode cX0_init 51 = .ok (.invokespecial 36, 3) := by decide +kernel
theorem dX0_init_54 : decode cX0_init 54 = .ok (.putfield 37, 3) := by decide +kernel
theorem dX0_init_57 : decode cX0_init 57 = .ok (.aload_n 0, 1) := by decide +kernel
theorem dX0_init_58 : decode cX0_init 58 = .ok (.new 41, 3) := by decide +kernel
theorem dX0_init_61 : decode cX0_init 61 = .ok (.dup, 1) := by decide +kernel
theorem dX0_init_62 : decode cX0_init 62 = .ok (.invokespecial 43, 3) := by decide +kernel
theorem dX0_init_65 : decode cX0_init 65 = .ok (.putfield 44, 3) := by decide +kernel
theorem dX0_init_68 : decode cX0_init 68 = .ok (.return_, 1) := by decide +kernel
set_option maxRecDepth 20000 in
theorem ggX1_init_X3_init : GoodIn wsX1_init wsX3_init := goodIn_r _ [14, 15, 16, 17, 18, 19, 20, 21, 22, 23, 24, 25, 26, 27, 28, 29, 30, 31, 32, 33, 34, 35, 36, 37, 38, 39] (by decide +kernel) (by decide +kernel)
set_option maxRecDepth 20000 in
theorem gX1_init_X3_init_n1 : GoodIn wsX1_init (wsX3_init) := ggX1_init_X3_init
theorem dX1_init_0 : decode cX1_init 0 = .ok (.aload_n 0, 1) := by decide +kernel
theorem dX1_init_1 : decode cX1_init 1 = .ok (.invokespecial 1, 3) := by decide +kernel
theorem dX1_init_4 : decode cX1_init 4 = .ok (.aload_n 0, 1) := by decide +kernel
theorem dX1_init_5 : decode cX1_init 5 = .ok (.sipush 128, 3) := by decide +kernel
theorem dX1_init_8 : decode cX1_init 8 = .ok (.newarray .int, 2) := by decide +kernel
theorem dX1_init_10 : decode cX1_init 10 = .ok (.putfield 9, 3) := by decide +kernel
theorem dX1_init_13 : decode cX1_init 13 = .ok (.aload_n 0, 1) := by decide +kernel
theorem dX1_init_14 : decode cX1_init 14 = .ok (.iconst 0, 1) := by decide +kernel
theorem dX1_init_15 : decode cX1_init 15 = .ok (.putfield 13, 3) := by decide +kernel
theorem dX1_init_18 : decode cX1_init 18 = .ok (.aload_n 0, 1) := by decide +kernel
theorem dX1_init_19 : decode cX1_init 19 = .ok (.iconst 0, 1) := by decide +kernel
theorem dX1_init_20 : decode cX1_init 20 = .ok (.putfield 17, 3) := by decide +kernel
theorem dX1_init_23 : decode cX1_init 23 = .ok (.aload_n 0, 1) := by decide +kernel
theorem dX1_init_24 : decode cX1_init 24 = .ok (.iconst 0, 1) := by decide +kernel
theorem dX1_init_25 : decode cX1_init 25 = .ok (.putfield 20, 3) := by decide +kernel
theorem dX1_init_28 : decode cX1_init 28 = .ok (.aload_n 0, 1) := by decide +kernel
theorem dX1_init_29 : decode cX1_init 29 = .ok (.iconst 0, 1) := by decide +kernel
theorem dX1_init_30 : decode cX1_init 30 = .ok (.putfield 23, 3) := by decide +kernel
theorem dX1_init_33 : decode cX1_init 33 = .ok (.aload_n 0, 1) := by decide +kernel
theorem dX1_init_34 : decode cX1_init 34 = .ok (.iconst 0, 1) := by decide +kernel
theorem dX1_init_35 : decode cX1_init 35 = .ok (.putfield 26, 3) := by decide +kernel
theorem dX1_init_38 : decode cX1_init 38 = .ok (.aload_n 0, 1) := by decide +kernel
theorem dX1_init_39 : decode cX1_init 39 = .ok (.iconst 0, 1) := by decide +kernel
theorem dX1_init_40 : decode cX1_init 40 = .ok (.putfield 29, 3) := by decide +kernel
theorem dX1_init_43 : decode cX1_init 43 = .ok (.aload_n 0, 1) := by decide +kernel
theorem dX1_init_44 : decode cX1_init 44 = .ok (.iconst 0, 1) := by decide +kernel
theorem dX1_init_45 : decode cX1_init 45 = .ok (.putfield 32, 3) := by decide +kernel
theorem dX1_init_48 : decode cX1_init 48 = .ok (.aload_n 0, 1) := by decide +kernel
theorem dX1_init_49 : decode cX1_init 49 = .ok (.sipush 128, 3) := by decide +kernel
theorem dX1_init_52 : decode cX1_init 52 = .ok (.putfield 36, 3) := by decide +kernel
theorem dX1_init_55 : decode cX1_init 55 = .ok (.return_, 1) := by decide +kernel
set_option maxRecDepth 20000 in
theorem ggX2_init_X3_init : GoodIn wsX2_init wsX3_init := goodIn_r _ [4, 5, 6, 7, 8, 9, 13, 14, 15, 16, 17, 18, 19, 20, 21, 22, 10, 11, 12, 23, 24, 25, 26, 27, 28, 29] (by decide +kernel) (by decide +kernel)
set_option maxRecDepth 20000 in
theorem gX2_init_X3_init_n1 : GoodIn wsX2_init (wsX3_init) := ggX2_init_X3_init
theorem dX2_init_0 : decode cX2_init 0 = .ok (.aload_n 0, 1) := by decide +kernel
theorem dX2_init_1 : decode cX2_init 1 = .ok (.invokespecial 1, 3) := by decide +kernel
theorem dX2_init_4 : decode cX2_init 4 = .ok (.aload_n 0, 1) := by decide +kernel
theorem dX2_init_5 : decode cX2_init 5 = .ok (.iconst 0, 1) := by decide +kernel
theorem dX2_init_6 : decode cX2_init 6 = .ok (.putfield 7, 3) := by decide +kernel
theorem dX2_init_9 : decode cX2_init 9 = .ok (.return_, 1) := by decide +kernel
theorem dX3_init_0 : decode cX3_init 0 = .ok (.aload_n 0, 1) := by decide +kernel
theorem dX3_init_1 : decode cX3_init 1 = .ok (.invokespecial 3, 3) := by decide +kernel
theorem dX3_init_4 : decode cX3_init 4 = .ok (.aload_n 0, 1) := by decide +kernel
theorem dX3_init_5 : decode cX3_init 5 = .ok (.iconst 0, 1) := by decide +kernel
theorem dX3_init_6 : decode cX3_init 6 = .ok (.putfield 9, 3) := by decide +kernel
theorem dX3_init_9 : decode cX3_init 9 = .ok (.aload_n 0, 1) := by decide +kernel
theorem dX3_init_10 : decode cX3_init 10 = .ok (.iconst 0, 1) := by decide +kernel
theorem dX3_init_11 : decode cX3_init 11 = .ok (.putfield 13, 3) := by decide +kernel
theorem dX3_init_14 : decode cX3_init 14 = .ok (.return_, 1) := by decide +kernel
theorem dX4_init_0 : decode cX4_init 0 = .ok (.aload_n 0, 1) := by decide +kernel
theorem dX4_init_1 : decode cX4_init 1 = .ok (.invokespecial 3, 3) := by decide +kernel
theorem dX4_init_4 : decode cX4_init 4 = .ok (.aload_n 0, 1) := by decide +kernel
theorem dX4_init_5 : decode cX4_init 5 = .ok (.bipush 16, 2) := by decide +kernel
theorem dX4_init_7 : decode cX4_init 7 = .ok (.newarray .int, 2) := by decide +kernel
theorem dX4_init_9 : decode cX4_init 9 = .ok (.putfield 9, 3) := by decide +kernel
theorem dX4_init_12 : decode cX4_init 12 = .ok (.aload_n 0, 1) := by decide +kernel
theorem dX4_init_13 : decode cX4_init 13 = .ok (.bipush 16, 2) := by decide +kernel
theorem dX4_init_15 : decode cX4_init 15 = .ok (.newarray .int, 2) := by decide +kernel
theorem dX4_init_17 : decode cX4_init 17 = .ok (.putfield 13, 3) := by decide +kernel
theorem dX4_init_20 : decode cX4_init 20 = .ok (.aload_n 0, 1) := by decide +kernel
theorem dX4_init_21 : decode cX4_init 21 = .ok (.iconst 0, 1) := by decide +kernel
theorem dX4_init_22 : decode cX4_init 22 = .ok (.putfield 16, 3) := by decide +kernel
theorem dX4_init_25 : decode cX4_init 25 = .ok (.return_, 1) := by decide +kernel
set_option maxRecDepth 20000 in
theorem ggX5_init_X3_init : GoodIn wsX5_init wsX3_init := goodIn_r _ [11, 12, 13, 14, 15, 16, 24, 25, 26, 27, 28, 29, 30, 31, 32, 33, 34, 35, 36, 17, 18, 19, 20, 21, 22, 23] (by decide +kernel) (by decide +kernel)
set_option maxRecDepth 20000 in
theorem gX5_init_X3_init_n1 : GoodIn wsX5_init (wsX3_init) := ggX5_init_X3_init
theorem dX5_init_0 : decode cX5_init 0 = .ok (.aload_n 0, 1) := by decide +kernel
theorem dX5_init_1 : decode cX5_init 1 = .ok (.invokespecial 1, 3) := by decide +kernel
theorem dX5_init_4 : decode cX5_init 4 = .ok (.aload_n 0, 1) := by decide +kernel
theorem dX5_init_5 : decode cX5_init 5 = .ok (.bipush 32, 2) := by decide +kernel
theorem dX5_init_7 : decode cX5_init 7 = .ok (.newarray .int, 2) := by decide +kernel
theorem dX5_init_9 : decode cX5_init 9 = .ok (.putfield 9, 3) := by decide +kernel
theorem dX5_init_12 : decode cX5_init 12 = .ok (.aload_n 0, 1) := by decide +kernel
theorem dX5_init_13 : decode cX5_init 13 = .ok (.iconst 0, 1) := by decide +kernel
theorem dX5_init_14 : decode cX5_init 14 = .ok (.putfield 13, 3) := by decide +kernel
theorem dX5_init_17 : decode cX5_init 17 = .ok (.aload_n 0, 1) := by decide +kernel
theorem dX5_init_18 : decode cX5_init 18 = .ok (.iconst 0, 1) := by decide +kernel
theorem dX5_init_19 : decode cX5_init 19 = .ok (.putfield 17, 3) := by decide +kernel
theorem dX5_init_22 : decode cX5_init 22 = .ok (.aload_n 0, 1) := by decide +kernel
theorem dX5_init_23 : decode cX5_init 23 = .ok (.iconst 0, 1) := by decide +kernel
theorem dX5_init_24 : decode cX5_init 24 = .ok (.putfield 20, 3) := by decide +kernel
theorem dX5_init_27 : decode cX5_init 27 = .ok (.aload_n 0, 1) := by decide +kernel
theorem dX5_init_28 : decode cX5_init 28 = .ok (.iconst 0, 1) := by decide +kernel
theorem dX5_init_29 : decode cX5_init 29 = .ok (.putfield 23, 3) := by decide +kernel
theorem dX5_init_32 : decode cX5_init 32 = .ok (.aload_n 0, 1) := by decide +kernel
theorem dX5_init_33 : decode cX5_init 33 = .ok (.sipush 128, 3) := by decide +kernel
theorem dX5_init_36 : decode cX5_init 36 = .ok (.putfield 27, 3) := by decide +kernel
theorem dX5_init_39 : decode cX5_init 39 = .ok (.return_, 1) := by decide +kernel
theorem dX6_init_0 : decode cX6_init 0 = .ok (.aload_n 0, 1) := by decide +kernel
theorem dX6_init_1 : decode cX6_init 1 = .ok (.invokespecial 1, 3) := by decide +kernel
theorem dX6_init_4 : decode cX6_init 4 = .ok (.aload_n 0, 1) := by decide +kernel
theorem dX6_init_5 : decode cX6_init 5 = .ok (.bipush 8, 2) := by decide +kernel
theorem dX6_init_7 : decode cX6_init 7 = .ok (.newarray .int, 2) := by decide +kernel
theorem dX6_init_9 : decode cX6_init 9 = .ok (.putfield 7, 3) := by decide +kernel
theorem dX6_init_12 : decode cX6_init 12 = .ok (.aload_n 0, 1) := by decide +kernel
theorem dX6_init_13 : decode cX6_init 13 = .ok (.iconst 0, 1) := by decide +kernel
theorem dX6_init_14 : decode cX6_init 14 = .ok (.putfield 13, 3) := by decide +kernel
theorem dX6_init_17 : decode cX6_init 17 = .ok (.aload_n 0, 1) := by decide +kernel
theorem dX6_init_18 : decode cX6_init 18 = .ok (.iconst 2, 1) := by decide +kernel
theorem dX6_init_19 : decode cX6_init 19 = .ok (.putfield 17, 3) := by decide +kernel
theorem dX6_init_22 : decode cX6_init 22 = .ok (.aload_n 0, 1) := by decide +kernel
theorem dX6_init_23 : decode cX6_init 23 = .ok (.iconst 0, 1) := by decide +kernel
theorem dX6_init_24 : decode cX6_init 24 = .ok (.putfield 20, 3) := by decide +kernel
theorem dX6_init_27 : decode cX6_init 27 = .ok (.aload_n 0, 1) := by decide +kernel
theorem dX6_init_28 : decode cX6_init 28 = .ok (.iconst 0, 1) := by decide +kernel
theorem dX6_init_29 : decode cX6_init 29 = .ok (.putfield 24, 3) := by decide +kernel
theorem dX6_init_32 : decode cX6_init 32 = .ok (.aload_n 0, 1) := by decide +kernel
theorem dX6_init_33 : decode cX6_init 33 = .ok (.iconst 0, 1) := by decide +kernel
theorem dX6_init_34 : decode cX6_init 34 = .ok (.putfield 27, 3) := by decide +kernel
theorem dX6_init_37 : decode cX6_init 37 = .ok (.aload_n 0, 1) := by decide +kernel
theorem dX6_init_38 : decode cX6_init 38 = .ok (.iconst 0, 1) := by decide +kernel
theorem dX6_init_39 : decode cX6_init 39 = .ok (.putfield 30, 3) := by decide +kernel
theorem dX6_init_42 : decode cX6_init 42 = .ok (.aload_n 0, 1) := by decide +kernel
theorem dX6_init_43 : decode cX6_init 43 = .ok (.aload_n 1, 1) := by decide +kernel
theorem dX6_init_44 : decode cX6_init 44 = .ok (.putfield 33, 3) := by decide +kernel
theorem dX6_init_47 : decode cX6_init 47 = .ok (.aload_n 0, 1) := by decide +kernel
theorem dX6_init_48 : decode cX6_init 48 = .ok (.aload_n 1, 1) := by decide +kernel
theorem dX6_init_49 : decode cX6_init 49 = .ok (.getfield 37, 3) := by decide +kernel
theorem dX6_init_52 : decode cX6_init 52 = .ok (.putfield 43, 3) := by decide +kernel
theorem dX6_init_55 : decode cX6_init 55 = .ok (.return_, 1) := by decide +kernel
theorem dX7_init_0 : decode cX7_init 0 = .ok (.aload_n 0, 1) := by decide +kernel
theorem dX7_init_1 : decode cX7_init 1 = .ok (.invokespecial 1, 3) := by decide +kernel
theorem dX7_init_4 : decode cX7_init 4 = .ok (.aload_n 0, 1) := by decide +kernel
theorem dX7_init_5 : decode cX7_init 5 = .ok (.iconst 0, 1) := by decide +kernel
theorem dX7_init_6 : decode cX7_init 6 = .ok (.putfield 7, 3) := by decide +kernel
theorem dX7_init_9 : decode cX7_init 9 = .ok (.aload_n 0, 1) := by decide +kernel
theorem dX7_init_10 : decode cX7_init 10 = .ok (.iconst (-1), 1) := by decide +kernel
theorem dX7_init_11 : decode cX7_init 11 = .ok (.putfield 13, 3) := by decide +kernel
theorem dX7_init_14 : decode cX7_init 14 = .ok (.return_, 1) := by decide +kernel
set_option maxRecDepth 20000 in
theorem ggX8_init_X0_init : GoodIn wsX8_init wsX0_init := goodIn_r _ [13, 14, 2, 3, 15, 16, 17, 18, 19, 20, 21, 22, 23, 24, 25, 26, 27, 28, 29, 30, 31, 32, 33, 34, 35, 36, 37, 38, 39, 40, 41, 42, 43, 44, 45, 46, 47, 48, 49, 50, 51, 52, 53, 54, 55, 56, 57, 58, 59, 60, 61, 62, 63, 64, 65, 66, 67, 68, 69, 70, 71, 72, 73, 74, 75, 76, 77, 78, 79, 94, 95, 96, 97, 98, 99, 111, 112, 113, 114, 115, 116, 117, 118, 119, 120, 121, 122, 123, 124, 125, 126, 127, 128, 129, 130, 131, 132, 133, 134, 135] (by decide +kernel) (by decide +kernel)
set_option maxRecDepth 20000 in
theorem gX8_init_X0_init_n9 : GoodIn wsX8_init (wsX0_init) := ggX8_init_X0_init
set_option maxRecDepth 20000 in
theorem ggX8_init_X6_init : GoodIn wsX8_init wsX6_init := goodIn_r _ [82, 83, 2, 3, 15, 84, 85, 86, 87, 88, 89, 90, 91, 92, 93, 102, 103, 104, 105, 106, 107, 108, 109, 110, 94, 95, 96, 97, 98, 99] (by decide +kernel) (by decide +kernel)
set_option maxRecDepth 20000 in
theorem gX8_init_X6_init : GoodIn wsX8_init (wsX6_init) := ggX8_init_X6_init
theorem dX8_init_0 : decode cX8_init 0 = .ok (.aload_n 0, 1) := by decide +kernel
theorem dX8_init_1 : decode cX8_init 1 = .ok (.invokespecial 1, 3) := by decide +kernel
theorem dX8_init_4 : decode cX8_init 4 = .ok (.aload_n 0, 1) := by decide +kernel
theorem dX8_init_5 : decode cX8_init 5 = .ok (.new 7, 3) := by decide +kernel
theorem dX8_init_8 : decode cX8_init 8 = .ok (.dup, 1) := by decide +kernel
theorem dX8_init_9 : decode cX8_init 9 = .ok (.invokespecial 9, 3) := by decide +kernel
theorem dX8_init_12 : decode cX8_init 12 = .ok (.putfield 10, 3) := by decide +kernel
theorem dX8_init_15 : decode cX8_init 15 = .ok (.aload_n 0, 1) := by decide +kernel
theorem dX8_init_16 : decode cX8_init 16 = .ok (.new 16, 3) := by decide +kernel
theorem dX8_init_19 : decode cX8_init 19 = .ok (.dup, 1) := by decide +kernel
theorem dX8_init_20 : decode cX8_init 20 = .ok (.aload_n 0, 1) := by decide +kernel
theorem dX8_init_21 : decode cX8_init 21 = .ok (.getfield 10, 3) := by decide +kernel
theorem dX8_init_24 : decode cX8_init 24 = .ok (.invokespecial 18, 3) := by decide +kernel
theorem dX8_init_27 : decode cX8_init 27 = .ok (.putfield 21, 3) := by decide +kernel
theorem dX8_init_30 : decode cX8_init 30 = .ok (.return_, 1) := by decide +kernel
set_option maxRecDepth 20000 in
theorem ggX8_deposit_X8_isMemory : GoodIn wsX8_deposit wsX8_isMemory := goodIn_r _ [8] (by decide +kernel) (by decide +kernel)
set_option maxRecDepth 20000 in
theorem gX8_deposit_X8_isMemory : GoodIn wsX8_deposit (va_wsS RX8 25 yX8_isMemory wsX8_isMemory) := goodIn_app (goodIn_of _ (by decide +kernel)) ggX8_deposit_X8_isMemory
set_option maxRecDepth 20000 in
theorem ggX8_deposit_X8_isWord : GoodIn wsX8_deposit wsX8_isWord := goodIn_r _ [11, 12] (by decide +kernel) (by decide +kernel)
set_option maxRecDepth 20000 in
theorem gX8_deposit_X8_isWord : GoodIn wsX8_deposit (va_wsS RX8 29 yX8_isWord wsX8_isWord) := goodIn_app (goodIn_of _ (by decide +kernel)) ggX8_deposit_X8_isWord
theorem dX8_deposit_0 : decode cX8_deposit 0 = .ok (.iload_n 1, 1) := by decide +kernel
theorem dX8_deposit_1 : decode cX8_deposit 1 = .ok (.invokestatic 25, 3) := by decide +kernel
theorem dX8_deposit_4 : decode cX8_deposit 4 = .ok (.ifCond .eq 10, 3) := by decide +kernel
theorem dX8_deposit_7 : decode cX8_deposit 7 = .ok (.iload_n 2, 1) := by decide +kernel
theorem dX8_deposit_8 : decode cX8_deposit 8 = .ok (.invokestatic 29, 3) := by decide +kernel
theorem dX8_deposit_11 : decode cX8_deposit 11 = .ok (.ifCond .ne 11, 3) := by decide +kernel
theorem dX8_deposit_14 : decode cX8_deposit 14 = .ok (.new 32, 3) := by decide +kernel
theorem dX8_deposit_17 : decode cX8_deposit 17 = .ok (.dup, 1) := by decide +kernel
theorem dX8_deposit_18 : decode cX8_deposit 18 = .ok (.invokespecial 34, 3) := by decide +kernel
theorem dX8_deposit_21 : decode cX8_deposit 21 = .ok (.athrow, 1) := by decide +kernel
theorem dX8_deposit_22 : decode cX8_deposit 22 = .ok (.aload_n 0, 1) := by decide +kernel
theorem dX8_deposit_23 : decode cX8_deposit 23 = .ok (.getfield 10, 3) := by decide +kernel
theorem dX8_deposit_26 : decode cX8_deposit 26 = .ok (.getfield 35, 3) := by decide +kernel
theorem dX8_deposit_29 : decode cX8_deposit 29 = .ok (.iload_n 1, 1) := by decide +kernel
theorem dX8_deposit_30 : decode cX8_deposit 30 = .ok (.iconst 1, 1) := by decide +kernel
theorem dX8_deposit_31 : decode cX8_deposit 31 = .ok (.ishr, 1) := by decide +kernel
theorem dX8_deposit_32 : decode cX8_deposit 32 = .ok (.iload_n 2, 1) := by decide +kernel
theorem dX8_deposit_33 : decode cX8_deposit 33 = .ok (.iastore, 1) := by decide +kernel
theorem dX8_deposit_34 : decode cX8_deposit 34 = .ok (.return_, 1) := by decide +kernel
set_option maxRecDepth 20000 in
theorem ggX8_set_X8_isWord : GoodIn wsX8_set wsX8_isWord := goodIn_r _ [9, 10] (by decide +kernel) (by decide +kernel)
set_option maxRecDepth 20000 in
theorem gX8_set_X8_isWord : GoodIn wsX8_set (va_wsS RX8 29 yX8_isWord wsX8_isWord) := goodIn_app (goodIn_of _ (by decide +kernel)) ggX8_set_X8_isWord
set_option maxRecDepth 20000 in
theorem ggX8_set_X6_mode : GoodIn wsX8_set wsX6_mode := goodIn_r _ [15, 16, 17, 20, 21, 22, 23, 24, 25, 26, 27, 28, 29, 30] (by decide +kernel) (by decide +kernel)
set_option maxRecDepth 20000 in
theorem gX8_set_X6_mode : GoodIn wsX8_set (wsV RX8 39 RX6 yX6_mode wsX6_mode) := goodIn_app (goodIn_of _ (by decide +kernel)) ggX8_set_X6_mode
theorem dX8_set_0 : decode cX8_set 0 = .ok (.iload_n 1, 1) := by decide +kernel
theorem dX8_set_1 : decode cX8_set 1 = .ok (.ifCond .lt 16, 3) := by decide +kernel
theorem dX8_set_4 : decode cX8_set 4 = .ok (.iload_n 1, 1) := by decide +kernel
theorem dX8_set_5 : decode cX8_set 5 = .ok (.bipush 7, 2) := by decide +kernel
theorem dX8_set_7 : decode cX8_set 7 = .ok (.if_icmp .gt 10, 3) := by decide +kernel
theorem dX8_set_10 : decode cX8_set 10 = .ok (.iload_n 2, 1) := by decide +kernel
theorem dX8_set_11 : decode cX8_set 11 = .ok (.invokestatic 29, 3) := by decide +kernel
theorem dX8_set_14 : decode cX8_set 14 = .ok (.ifCond .ne 11, 3) := by decide +kernel
theorem dX8_set_17 : decode cX8_set 17 = .ok (.new 32, 3) := by decide +kernel
theorem dX8_set_20 : decode cX8_set 20 = .ok (.dup, 1) := by decide +kernel
theorem dX8_set_21 : decode cX8_set 21 = .ok (.invokespecial 34, 3) := by decide +kernel
theorem dX8_set_24 : decode cX8_set 24 = .ok (.athrow, 1) := by decide +kernel
theorem dX8_set_25 : decode cX8_set 25 = .ok (.iload_n 1, 1) := by decide +kernel
theorem dX8_set_26 : decode cX8_set 26 = .ok (.bipush 6, 2) := by decide +kernel
theorem dX8_set_28 : decode cX8_set 28 = .ok (.if_icmp .ne 24, 3) := by decide +kernel
theorem dX8_set_31 : decode cX8_set 31 = .ok (.aload_n 0, 1) := by decide +kernel
theorem dX8_set_32 : decode cX8_set 32 = .ok (.getfield 21, 3) := by decide +kernel
theorem dX8_set_35 : decode cX8_set 35 = .ok (.invokevirtual 39, 3) := by decide +kernel
theorem dX8_set_38 : decode cX8_set 38 = .ok (.ifCond .eq 14, 3) := by decide +kernel
theorem dX8_set_41 : decode cX8_set 41 = .ok (.aload_n 0, 1) := by decide +kernel
theorem dX8_set_42 : decode cX8_set 42 = .ok (.getfield 21, 3) := by decide +kernel
theorem dX8_set_45 : decode cX8_set 45 = .ok (.iload_n 2, 1) := by decide +kernel
theorem dX8_set_46 : decode cX8_set 46 = .ok (.putfield 43, 3) := by decide +kernel
theorem dX8_set_49 : decode cX8_set 49 = .ok (.goto 13, 3) := by decide +kernel
theorem dX8_set_52 : decode cX8_set 52 = .ok (.aload_n 0, 1) := by decide +kernel
theorem dX8_set_53 : decode cX8_set 53 = .ok (.getfield 21, 3) := by decide +kernel
theorem dX8_set_56 : decode cX8_set 56 = .ok (.getfield 47, 3) := by decide +kernel
theorem dX8_set_59 : decode cX8_set 59 = .ok (.iload_n 1, 1) := by decide +kernel
theorem dX8_set_60 : decode cX8_set 60 = .ok (.iload_n 2, 1) := by decide +kernel
theorem dX8_set_61 : decode cX8_set 61 = .ok (.iastore, 1) := by decide +kernel
theorem dX8_set_62 : decode cX8_set 62 = .ok (.return_, 1) := by decide +kernel
set_option maxRecDepth 20000 in
theorem ggX8_start_X8_isWord : GoodIn wsX8_start wsX8_isWord := goodIn_r _ [10, 11] (by decide +kernel) (by decide +kernel)
set_option maxRecDepth 20000 in
theorem gX8_start_X8_isWord : GoodIn wsX8_start (va_wsS RX8 29 yX8_isWord wsX8_isWord) := goodIn_app (goodIn_of _ (by decide +kernel)) ggX8_start_X8_isWord
set_option maxRecDepth 20000 in
theorem ggX8_start_X6_takeStatus : GoodIn wsX8_start wsX6_takeStatus := goodIn_r _ [16, 17, 18, 19, 20, 23, 24, 25, 26, 27, 28, 29, 30, 31, 32, 33] (by decide +kernel) (by decide +kernel)
set_option maxRecDepth 20000 in
theorem gX8_start_X6_takeStatus : GoodIn wsX8_start (wsV RX8 59 RX6 yX6_takeStatus wsX6_takeStatus) := goodIn_app (goodIn_of _ (by decide +kernel)) ggX8_start_X6_takeStatus
theorem dX8_start_0 : decode cX8_start 0 = .ok (.iload_n 1, 1) := by decide +kernel
theorem dX8_start_1 : decode cX8_start 1 = .ok (.invokestatic 29, 3) := by decide +kernel
theorem dX8_start_4 : decode cX8_start 4 = .ok (.ifCond .ne 11, 3) := by decide +kernel
theorem dX8_start_7 : decode cX8_start 7 = .ok (.new 32, 3) := by decide +kernel
theorem dX8_start_10 : decode cX8_start 10 = .ok (.dup, 1) := by decide +kernel
theorem dX8_start_11 : decode cX8_start 11 = .ok (.invokespecial 34, 3) := by decide +kernel
theorem dX8_start_14 : decode cX8_start 14 = .ok (.athrow, 1) := by decide +kernel
theorem dX8_start_15 : decode cX8_start 15 = .ok (.aload_n 0, 1) := by decide +kernel
theorem dX8_start_16 : decode cX8_start 16 = .ok (.getfield 21, 3) := by decide +kernel
theorem dX8_start_19 : decode cX8_start 19 = .ok (.sipush 224, 3) := by decide +kernel
theorem dX8_start_22 : decode cX8_start 22 = .ok (.invokevirtual 59, 3) := by decide +kernel
theorem dX8_start_25 : decode cX8_start 25 = .ok (.aload_n 0, 1) := by decide +kernel
theorem dX8_start_26 : decode cX8_start 26 = .ok (.getfield 21, 3) := by decide +kernel
theorem dX8_start_29 : decode cX8_start 29 = .ok (.getfield 47, 3) := by decide +kernel
theorem dX8_start_32 : decode cX8_start 32 = .ok (.bipush 7, 2) := by decide +kernel
theorem dX8_start_34 : decode cX8_start 34 = .ok (.iload_n 1, 1) := by decide +kernel
theorem dX8_start_35 : decode cX8_start 35 = .ok (.iastore, 1) := by decide +kernel
theorem dX8_start_36 : decode cX8_start 36 = .ok (.aload_n 0, 1) := by decide +kernel
theorem dX8_start_37 : decode cX8_start 37 = .ok (.getfield 21, 3) := by decide +kernel
theorem dX8_start_40 : decode cX8_start 40 = .ok (.iconst 0, 1) := by decide +kernel
theorem dX8_start_41 : decode cX8_start 41 = .ok (.putfield 63, 3) := by decide +kernel
theorem dX8_start_44 : decode cX8_start 44 = .ok (.aload_n 0, 1) := by decide +kernel
theorem dX8_start_45 : decode cX8_start 45 = .ok (.getfield 21, 3) := by decide +kernel
theorem dX8_start_48 : decode cX8_start 48 = .ok (.iconst 0, 1) := by decide +kernel
theorem dX8_start_49 : decode cX8_start 49 = .ok (.putfield 66, 3) := by decide +kernel
theorem dX8_start_52 : decode cX8_start 52 = .ok (.return_, 1) := by decide +kernel
theorem dX8_isWord_0 : decode cX8_isWord 0 = .ok (.iload_n 0, 1) := by decide +kernel
theorem dX8_isWord_1 : decode cX8_isWord 1 = .ok (.ifCond .lt 13, 3) := by decide +kernel
theorem dX8_isWord_4 : decode cX8_isWord 4 = .ok (.iload_n 0, 1) := by decide +kernel
theorem dX8_isWord_5 : decode cX8_isWord 5 = .ok (.ldc 124, 2) := by decide +kernel
theorem dX8_isWord_7 : decode cX8_isWord 7 = .ok (.if_icmp .gt 7, 3) := by decide +kernel
theorem dX8_isWord_10 : decode cX8_isWord 10 = .ok (.iconst 1, 1) := by decide +kernel
theorem dX8_isWord_11 : decode cX8_isWord 11 = .ok (.goto 4, 3) := by decide +kernel
theorem dX8_isWord_14 : decode cX8_isWord 14 = .ok (.iconst 0, 1) := by decide +kernel
theorem dX8_isWord_15 : decode cX8_isWord 15 = .ok (.ireturn, 1) := by decide +kernel
theorem dX8_isMemory_0 : decode cX8_isMemory 0 = .ok (.iload_n 0, 1) := by decide +kernel
theorem dX8_isMemory_1 : decode cX8_isMemory 1 = .ok (.ifCond .lt 20, 3) := by decide +kernel
theorem dX8_isMemory_4 : decode cX8_isMemory 4 = .ok (.iload_n 0, 1) := by decide +kernel
theorem dX8_isMemory_5 : decode cX8_isMemory 5 = .ok (.sipush 1024, 3) := by decide +kernel
theorem dX8_isMemory_8 : decode cX8_isMemory 8 = .ok (.if_icmp .ge 13, 3) := by decide +kernel
theorem dX8_isMemory_11 : decode cX8_isMemory 11 = .ok (.iload_n 0, 1) := by decide +kernel
theorem dX8_isMemory_12 : decode cX8_isMemory 12 = .ok (.iconst 1, 1) := by decide +kernel
theorem dX8_isMemory_13 : decode cX8_isMemory 13 = .ok (.iand, 1) := by decide +kernel
theorem dX8_isMemory_14 : decode cX8_isMemory 14 = .ok (.ifCond .ne 7, 3) := by decide +kernel
theorem dX8_isMemory_17 : decode cX8_isMemory 17 = .ok (.iconst 1, 1) := by decide +kernel
theorem dX8_isMemory_18 : decode cX8_isMemory 18 = .ok (.goto 4, 3) := by decide +kernel
theorem dX8_isMemory_21 : decode cX8_isMemory 21 = .ok (.iconst 0, 1) := by decide +kernel
theorem dX8_isMemory_22 : decode cX8_isMemory 22 = .ok (.ireturn, 1) := by decide +kernel
theorem dX9_init_0 : decode cX9_init 0 = .ok (.aload_n 0, 1) := by decide +kernel
theorem dX9_init_1 : decode cX9_init 1 = .ok (.invokespecial 1, 3) := by decide +kernel
theorem dX9_init_4 : decode cX9_init 4 = .ok (.aload_n 0, 1) := by decide +kernel
theorem dX9_init_5 : decode cX9_init 5 = .ok (.sipush 512, 3) := by decide +kernel
theorem dX9_init_8 : decode cX9_init 8 = .ok (.newarray .int, 2) := by decide +kernel
theorem dX9_init_10 : decode cX9_init 10 = .ok (.putfield 7, 3) := by decide +kernel
theorem dX9_init_13 : decode cX9_init 13 = .ok (.aload_n 0, 1) := by decide +kernel
theorem dX9_init_14 : decode cX9_init 14 = .ok (.bipush 16, 2) := by decide +kernel
theorem dX9_init_16 : decode cX9_init 16 = .ok (.newarray .int, 2) := by decide +kernel
theorem dX9_init_18 : decode cX9_init 18 = .ok (.putfield 13, 3) := by decide +kernel
theorem dX9_init_21 : decode cX9_init 21 = .ok (.aload_n 0, 1) := by decide +kernel
theorem dX9_init_22 : decode cX9_init 22 = .ok (.bipush 16, 2) := by decide +kernel
theorem dX9_init_24 : decode cX9_init 24 = .ok (.newarray .int, 2) := by decide +kernel
theorem dX9_init_26 : decode cX9_init 26 = .ok (.putfield 16, 3) := by decide +kernel
theorem dX9_init_29 : decode cX9_init 29 = .ok (.aload_n 0, 1) := by decide +kernel
theorem dX9_init_30 : decode cX9_init 30 = .ok (.bipush 8, 2) := by decide +kernel
theorem dX9_init_32 : decode cX9_init 32 = .ok (.newarray .int, 2) := by decide +kernel
theorem dX9_init_34 : decode cX9_init 34 = .ok (.putfield 19, 3) := by decide +kernel
theorem dX9_init_37 : decode cX9_init 37 = .ok (.aload_n 0, 1) := by decide +kernel
theorem dX9_init_38 : decode cX9_init 38 = .ok (.iconst 2, 1) := by decide +kernel
theorem dX9_init_39 : decode cX9_init 39 = .ok (.putfield 22, 3) := by decide +kernel
theorem dX9_init_42 : decode cX9_init 42 = .ok (.aload_n 0, 1) := by decide +kernel
theorem dX9_init_43 : decode cX9_init 43 = .ok (.iconst 3, 1) := by decide +kernel
theorem dX9_init_44 : decode cX9_init 44 = .ok (.newarray .boolean, 2) := by decide +kernel
theorem dX9_init_46 : decode cX9_init 46 = .ok (.putfield 26, 3) := by decide +kernel
theorem dX9_init_49 : decode cX9_init 49 = .ok (.aload_n 0, 1) := by decide +kernel
theorem dX9_init_50 : decode cX9_init 50 = .ok (.iconst 3, 1) := by decide +kernel
theorem dX9_init_51 : decode cX9_init 51 = .ok (.newarray .boolean, 2) := by decide +kernel
theorem dX9_init_53 : decode cX9_init 53 = .ok (.putfield 30, 3) := by decide +kernel
theorem dX9_init_56 : decode cX9_init 56 = .ok (.aload_n 0, 1) := by decide +kernel
theorem dX9_init_57 : decode cX9_init 57 = .ok (.iconst 3, 1) := by decide +kernel
theorem dX9_init_58 : decode cX9_init 58 = .ok (.newarray .boolean, 2) := by decide +kernel
theorem dX9_init_60 : decode cX9_init 60 = .ok (.putfield 33, 3) := by decide +kernel
theorem dX9_init_63 : decode cX9_init 63 = .ok (.aload_n 0, 1) := by decide +kernel
theorem dX9_init_64 : decode cX9_init 64 = .ok (.iconst 3, 1) := by decide +kernel
theorem dX9_init_65 : decode cX9_init 65 = .ok (.newarray .boolean, 2) := by decide +kernel
theorem dX9_init_67 : decode cX9_init 67 = .ok (.putfield 36, 3) := by decide +kernel
theorem dX9_init_70 : decode cX9_init 70 = .ok (.aload_n 0, 1) := by decide +kernel
theorem dX9_init_71 : decode cX9_init 71 = .ok (.iconst 3, 1) := by decide +kernel
theorem dX9_init_72 : decode cX9_init 72 = .ok (.newarray .int, 2) := by decide +kernel
theorem dX9_init_74 : decode cX9_init 74 = .ok (.putfield 39, 3) := by decide +kernel
theorem dX9_init_77 : decode cX9_init 77 = .ok (.aload_n 0, 1) := by decide +kernel
theorem dX9_init_78 : decode cX9_init 78 = .ok (.bipush 32, 2) := by decide +kernel
theorem dX9_init_80 : decode cX9_init 80 = .ok (.newarray .int, 2) := by decide +kernel
theorem dX9_init_82 : decode cX9_init 82 = .ok (.putfield 42, 3) := by decide +kernel
theorem dX9_init_85 : decode cX9_init 85 = .ok (.aload_n 0, 1) := by decide +kernel
theorem dX9_init_86 : decode cX9_init 86 = .ok (.sipush 128, 3) := by decide +kernel
theorem dX9_init_89 : decode cX9_init 89 = .ok (.newarray .int, 2) := by decide +kernel
theorem dX9_init_91 : decode cX9_init 91 = .ok (.putfield 45, 3) := by decide +kernel
theorem dX9_init_94 : decode cX9_init 94 = .ok (.aload_n 0, 1) := by decide +kernel
theorem dX9_init_95 : decode cX9_init 95 = .ok (.getfield 26, 3) := by decide +kernel
theorem dX9_init_98 : decode cX9_init 98 = .ok (.iconst 0, 1) := by decide +kernel
theorem dX9_init_99 : decode cX9_init 99 = .ok (.iconst 1, 1) := by decide +kernel
theorem dX9_init_100 : decode cX9_init 100 = .ok (.bastore, 1) := by decide +kernel
theorem dX9_init_101 : decode cX9_init 101 = .ok (.aload_n 0, 1) := by decide +kernel
theorem dX9_init_102 : decode cX9_init 102 = .ok (.getfield 26, 3) := by decide +kernel
theorem dX9_init_105 : decode cX9_init 105 = .ok (.iconst 2, 1) := by decide +kernel
theorem dX9_init_106 : decode cX9_init 106 = .ok (.iconst 1, 1) := by decide +kernel
theorem dX9_init_107 : decode cX9_init 107 = .ok (.bastore, 1) := by decide +kernel
theorem dX9_init_108 : decode cX9_init 108 = .ok (.return_, 1) := by decide +kernel
theorem dX9_thrown_0 : decode cX9_thrown 0 = .ok (.aload_n 0, 1) := by decide +kernel
theorem dX9_thrown_1 : decode cX9_thrown 1 = .ok (.getfield 48, 3) := by decide +kernel
theorem dX9_thrown_4 : decode cX9_thrown 4 = .ok (.ireturn, 1) := by decide +kernel
theorem dX9_out_0 : decode cX9_out 0 = .ok (.iload_n 0, 1) := by decide +kernel
theorem dX9_out_1 : decode cX9_out 1 = .ok (.ifCond .lt 8, 3) := by decide +kernel
theorem dX9_out_4 : decode cX9_out 4 = .ok (.iload_n 0, 1) := by decide +kernel
theorem dX9_out_5 : decode cX9_out 5 = .ok (.iload_n 1, 1) := by decide +kernel
theorem dX9_out_6 : decode cX9_out 6 = .ok (.if_icmp .lt 7, 3) := by decide +kernel
theorem dX9_out_9 : decode cX9_out 9 = .ok (.iconst 1, 1) := by decide +kernel
theorem dX9_out_10 : decode cX9_out 10 = .ok (.goto 4, 3) := by decide +kernel
theorem dX9_out_13 : decode cX9_out 13 = .ok (.iconst 0, 1) := by decide +kernel
theorem dX9_out_14 : decode cX9_out 14 = .ok (.ireturn, 1) := by decide +kernel
theorem dX9_bit_0 : decode cX9_bit 0 = .ok (.iload_n 0, 1) := by decide +kernel
theorem dX9_bit_1 : decode cX9_bit 1 = .ok (.ifCond .eq 7, 3) := by decide +kernel
theorem dX9_bit_4 : decode cX9_bit 4 = .ok (.iload_n 1, 1) := by decide +kernel
theorem dX9_bit_5 : decode cX9_bit 5 = .ok (.goto 4, 3) := by decide +kernel
theorem dX9_bit_8 : decode cX9_bit 8 = .ok (.iconst 0, 1) := by decide +kernel
theorem dX9_bit_9 : decode cX9_bit 9 = .ok (.ireturn, 1) := by decide +kernel
theorem dX9_at_0 : decode cX9_at 0 = .ok (.iload_n 1, 1) := by decide +kernel
theorem dX9_at_1 : decode cX9_at 1 = .ok (.sipush 1024, 3) := by decide +kernel
theorem dX9_at_4 : decode cX9_at 4 = .ok (.if_icmp .ge 12, 3) := by decide +kernel
theorem dX9_at_7 : decode cX9_at 7 = .ok (.aload_n 0, 1) := by decide +kernel
theorem dX9_at_8 : decode cX9_at 8 = .ok (.getfield 7, 3) := by decide +kernel
theorem dX9_at_11 : decode cX9_at 11 = .ok (.iload_n 1, 1) := by decide +kernel
theorem dX9_at_12 : decode cX9_at 12 = .ok (.iconst 2, 1) := by decide +kernel
theorem dX9_at_13 : decode cX9_at 13 = .ok (.idiv, 1) := by decide +kernel
theorem dX9_at_14 : decode cX9_at 14 = .ok (.iaload, 1) := by decide +kernel
theorem dX9_at_15 : decode cX9_at 15 = .ok (.ireturn, 1) := by decide +kernel
theorem dX9_at_16 : decode cX9_at 16 = .ok (.iload_n 1, 1) := by decide +kernel
theorem dX9_at_17 : decode cX9_at 17 = .ok (.ldc 64, 2) := by decide +kernel
theorem dX9_at_19 : decode cX9_at 19 = .ok (.isub, 1) := by decide +kernel
theorem dX9_at_20 : decode cX9_at 20 = .ok (.istore_n 2, 1) := by decide +kernel
theorem dX9_at_21 : decode cX9_at 21 = .ok (.iload_n 2, 1) := by decide +kernel
theorem dX9_at_22 : decode cX9_at 22 = .ok (.ifCond .ge 5, 3) := by decide +kernel
theorem dX9_at_25 : decode cX9_at 25 = .ok (.iconst (-1), 1) := by decide +kernel
theorem dX9_at_26 : decode cX9_at 26 = .ok (.ireturn, 1) := by decide +kernel
theorem dX9_at_27 : decode cX9_at 27 = .ok (.iload_n 2, 1) := by decide +kernel
theorem dX9_at_28 : decode cX9_at 28 = .ok (.bipush 32, 2) := by decide +kernel
theorem dX9_at_30 : decode cX9_at 30 = .ok (.if_icmp .ge 12, 3) := by decide +kernel
theorem dX9_at_33 : decode cX9_at 33 = .ok (.aload_n 0, 1) := by decide +kernel
theorem dX9_at_34 : decode cX9_at 34 = .ok (.getfield 13, 3) := by decide +kernel
theorem dX9_at_37 : decode cX9_at 37 = .ok (.iload_n 2, 1) := by decide +kernel
theorem dX9_at_38 : decode cX9_at 38 = .ok (.iconst 2, 1) := by decide +kernel
theorem dX9_at_39 : decode cX9_at 39 = .ok (.idiv, 1) := by decide +kernel
theorem dX9_at_40 : decode cX9_at 40 = .ok (.iaload, 1) := by decide +kernel
theorem dX9_at_41 : decode cX9_at 41 = .ok (.ireturn, 1) := by decide +kernel
theorem dX9_at_42 : decode cX9_at 42 = .ok (.iload_n 2, 1) := by decide +kernel
theorem dX9_at_43 : decode cX9_at 43 = .ok (.bipush 64, 2) := by decide +kernel
theorem dX9_at_45 : decode cX9_at 45 = .ok (.if_icmp .ge 15, 3) := by decide +kernel
theorem dX9_at_48 : decode cX9_at 48 = .ok (.aload_n 0, 1) := by decide +kernel
theorem dX9_at_49 : decode cX9_at 49 = .ok (.getfield 16, 3) := by decide +kernel
theorem dX9_at_52 : decode cX9_at 52 = .ok (.iload_n 2, 1) := by decide +kernel
theorem dX9_at_53 : decode cX9_at 53 = .ok (.iconst 2, 1) := by decide +kernel
theorem dX9_at_54 : decode cX9_at 54 = .ok (.idiv, 1) := by decide +kernel
theorem dX9_at_55 : decode cX9_at 55 = .ok (.bipush 16, 2) := by decide +kernel
theorem dX9_at_57 : decode cX9_at 57 = .ok (.isub, 1) := by decide +kernel
theorem dX9_at_58 : decode cX9_at 58 = .ok (.iaload, 1) := by decide +kernel
theorem dX9_at_59 : decode cX9_at 59 = .ok (.ireturn, 1) := by decide +kernel
theorem dX9_at_60 : decode cX9_at 60 = .ok (.iload_n 2, 1) := by decide +kernel
theorem dX9_at_61 : decode cX9_at 61 = .ok (.bipush 64, 2) := by decide +kernel
theorem dX9_at_63 : decode cX9_at 63 = .ok (.if_icmp .ne 8, 3) := by decide +kernel
theorem dX9_at_66 : decode cX9_at 66 = .ok (.aload_n 0, 1) := by decide +kernel
theorem dX9_at_67 : decode cX9_at 67 = .ok (.getfield 65, 3) := by decide +kernel
theorem dX9_at_70 : decode cX9_at 70 = .ok (.ireturn, 1) := by decide +kernel
theorem dX9_at_71 : decode cX9_at 71 = .ok (.iload_n 2, 1) := by decide +kernel
theorem dX9_at_72 : decode cX9_at 72 = .ok (.bipush 80, 2) := by decide +kernel
theorem dX9_at_74 : decode cX9_at 74 = .ok (.if_icmp .ne 9, 3) := by decide +kernel
theorem dX9_at_77 : decode cX9_at 77 = .ok (.aload_n 0, 1) := by decide +kernel
theorem dX9_at_78 : decode cX9_at 78 = .ok (.iconst 1, 1) := by decide +kernel
theorem dX9_at_79 : decode cX9_at 79 = .ok (.invokevirtual 68, 3) := by decide +kernel
theorem dX9_at_82 : decode cX9_at 82 = .ok (.ireturn, 1) := by decide +kernel
theorem dX9_at_83 : decode cX9_at 83 = .ok (.iload_n 2, 1) := by decide +kernel
theorem dX9_at_84 : decode cX9_at 84 = .ok (.bipush 82, 2) := by decide +kernel
theorem dX9_at_86 : decode cX9_at 86 = .ok (.if_icmp .ne 8, 3) := by decide +kernel
theorem dX9_at_89 : decode cX9_at 89 = .ok (.aload_n 0, 1) := by decide +kernel
theorem dX9_at_90 : decode cX9_at 90 = .ok (.getfield 72, 3) := by decide +kernel
theorem dX9_at_93 : decode cX9_at 93 = .ok (.ireturn, 1) := by decide +kernel
theorem dX9_at_94 : decode cX9_at 94 = .ok (.iload_n 2, 1) := by decide +kernel
theorem dX9_at_95 : decode cX9_at 95 = .ok (.bipush 84, 2) := by decide +kernel
theorem dX9_at_97 : decode cX9_at 97 = .ok (.if_icmp .ne 9, 3) := by decide +kernel
theorem dX9_at_100 : decode cX9_at 100 = .ok (.aload_n 0, 1) := by decide +kernel
theorem dX9_at_101 : decode cX9_at 101 = .ok (.iconst 2, 1) := by decide +kernel
theorem dX9_at_102 : decode cX9_at 102 = .ok (.invokevirtual 68, 3) := by decide +kernel
theorem dX9_at_105 : decode cX9_at 105 = .ok (.ireturn, 1) := by decide +kernel
theorem dX9_at_106 : decode cX9_at 106 = .ok (.iload_n 2, 1) := by decide +kernel
theorem dX9_at_107 : decode cX9_at 107 = .ok (.bipush 86, 2) := by decide +kernel
theorem dX9_at_109 : decode cX9_at 109 = .ok (.if_icmp .ne 5, 3) := by decide +kernel
theorem dX9_at_112 : decode cX9_at 112 = .ok (.iconst 0, 1) := by decide +kernel
theorem dX9_at_113 : decode cX9_at 113 = .ok (.ireturn, 1) := by decide +kernel
theorem dX9_at_114 : decode cX9_at 114 = .ok (.iload_n 2, 1) := by decide +kernel
theorem dX9_at_115 : decode cX9_at 115 = .ok (.bipush 96, 2) := by decide +kernel
theorem dX9_at_117 : decode cX9_at 117 = .ok (.if_icmp .ne 9, 3) := by decide +kernel
theorem dX9_at_120 : decode cX9_at 120 = .ok (.aload_n 0, 1) := by decide +kernel
theorem dX9_at_121 : decode cX9_at 121 = .ok (.iconst 0, 1) := by decide +kernel
theorem dX9_at_122 : decode cX9_at 122 = .ok (.invokevirtual 68, 3) := by decide +kernel
theorem dX9_at_125 : decode cX9_at 125 = .ok (.ireturn, 1) := by decide +kernel
theorem dX9_at_126 : decode cX9_at 126 = .ok (.iload_n 2, 1) := by decide +kernel
theorem dX9_at_127 : decode cX9_at 127 = .ok (.bipush 98, 2) := by decide +kernel
theorem dX9_at_129 : decode cX9_at 129 = .ok (.if_icmp .ne 8, 3) := by decide +kernel
theorem dX9_at_132 : decode cX9_at 132 = .ok (.aload_n 0, 1) := by decide +kernel
theorem dX9_at_133 : decode cX9_at 133 = .ok (.getfield 75, 3) := by decide +kernel
theorem dX9_at_136 : decode cX9_at 136 = .ok (.ireturn, 1) := by decide +kernel
theorem dX9_at_137 : decode cX9_at 137 = .ok (.iload_n 2, 1) := by decide +kernel
theorem dX9_at_138 : decode cX9_at 138 = .ok (.bipush 100, 2) := by decide +kernel
theorem dX9_at_140 : decode cX9_at 140 = .ok (.if_icmp .ne 8, 3) := by decide +kernel
theorem dX9_at_143 : decode cX9_at 143 = .ok (.aload_n 0, 1) := by decide +kernel
theorem dX9_at_144 : decode cX9_at 144 = .ok (.getfield 78, 3) := by decide +kernel
theorem dX9_at_147 : decode cX9_at 147 = .ok (.ireturn, 1) := by decide +kernel
theorem dX9_at_148 : decode cX9_at 148 = .ok (.iload_n 2, 1) := by decide +kernel
theorem dX9_at_149 : decode cX9_at 149 = .ok (.bipush 102, 2) := by decide +kernel
theorem dX9_at_151 : decode cX9_at 151 = .ok (.if_icmp .ne 8, 3) := by decide +kernel
theorem dX9_at_154 : decode cX9_at 154 = .ok (.aload_n 0, 1) := by decide +kernel
theorem dX9_at_155 : decode cX9_at 155 = .ok (.getfield 81, 3) := by decide +kernel
theorem dX9_at_158 : decode cX9_at 158 = .ok (.ireturn, 1) := by decide +kernel
theorem dX9_at_159 : decode cX9_at 159 = .ok (.iload_n 2, 1) := by decide +kernel
theorem dX9_at_160 : decode cX9_at 160 = .ok (.bipush 126, 2) := by decide +kernel
theorem dX9_at_162 : decode cX9_at 162 = .ok (.if_icmp .ne 10, 3) := by decide +kernel
theorem dX9_at_165 : decode cX9_at 165 = .ok (.aload_n 0, 1) := by decide +kernel
theorem dX9_at_166 : decode cX9_at 166 = .ok (.getfield 84, 3) := by decide +kernel
theorem dX9_at_169 : decode cX9_at 169 = .ok (.goto 4, 3) := by decide +kernel
theorem dX9_at_172 : decode cX9_at 172 = .ok (.iconst (-1), 1) := by decide +kernel
theorem dX9_at_173 : decode cX9_at 173 = .ok (.ireturn, 1) := by decide +kernel
set_option maxRecDepth 20000 in
theorem ggX9_read_X9_at : GoodIn wsX9_read wsX9_at := goodIn_r _ [8, 9, 10, 11, 12, 13, 14, 15, 16, 17, 18, 19, 20, 21, 7, 22, 3, 23, 24, 25, 26, 27, 28, 29, 30, 31, 32, 33, 34, 35, 36, 37, 38, 39, 40, 41, 42, 43, 44, 45, 46, 47, 48, 49, 50, 51, 52, 53, 54, 55, 56, 57] (by decide +kernel) (by decide +kernel)
set_option maxRecDepth 20000 in
theorem gX9_read_X9_at : GoodIn wsX9_read (wsV RX9 90 RX9 yX9_at wsX9_at) := goodIn_app (goodIn_of _ (by decide +kernel)) ggX9_read_X9_at
theorem dX9_read_0 : decode cX9_read 0 = .ok (.aload_n 0, 1) := by decide +kernel
theorem dX9_read_1 : decode cX9_read 1 = .ok (.getfield 87, 3) := by decide +kernel
theorem dX9_read_4 : decode cX9_read 4 = .ok (.ifCond .le 5, 3) := by decide +kernel
theorem dX9_read_7 : decode cX9_read 7 = .ok (.iconst 0, 1) := by decide +kernel
theorem dX9_read_8 : decode cX9_read 8 = .ok (.ireturn, 1) := by decide +kernel
theorem dX9_read_9 : decode cX9_read 9 = .ok (.aload_n 0, 1) := by decide +kernel
theorem dX9_read_10 : decode cX9_read 10 = .ok (.iload_n 1, 1) := by decide +kernel
theorem dX9_read_11 : decode cX9_read 11 = .ok (.invokevirtual 90, 3) := by decide +kernel
theorem dX9_read_14 : decode cX9_read 14 = .ok (.istore_n 2, 1) := by decide +kernel
theorem dX9_read_15 : decode cX9_read 15 = .ok (.iload_n 2, 1) := by decide +kernel
theorem dX9_read_16 : decode cX9_read 16 = .ok (.ifCond .ge 8, 3) := by decide +kernel
theorem dX9_read_19 : decode cX9_read 19 = .ok (.aload_n 0, 1) := by decide +kernel
theorem dX9_read_20 : decode cX9_read 20 = .ok (.iconst 4, 1) := by decide +kernel
theorem dX9_read_21 : decode cX9_read 21 = .ok (.putfield 87, 3) := by decide +kernel
theorem dX9_read_24 : decode cX9_read 24 = .ok (.iload_n 1, 1) := by decide +kernel
theorem dX9_read_25 : decode cX9_read 25 = .ok (.ldc 93, 2) := by decide +kernel
theorem dX9_read_27 : decode cX9_read 27 = .ok (.if_icmp .ne 10, 3) := by decide +kernel
theorem dX9_read_30 : decode cX9_read 30 = .ok (.aload_n 0, 1) := by decide +kernel
theorem dX9_read_31 : decode cX9_read 31 = .ok (.getfield 26, 3) := by decide +kernel
theorem dX9_read_34 : decode cX9_read 34 = .ok (.iconst 1, 1) := by decide +kernel
theorem dX9_read_35 : decode cX9_read 35 = .ok (.iconst 0, 1) := by decide +kernel
theorem dX9_read_36 : decode cX9_read 36 = .ok (.bastore, 1) := by decide +kernel
theorem dX9_read_37 : decode cX9_read 37 = .ok (.iload_n 2, 1) := by decide +kernel
theorem dX9_read_38 : decode cX9_read 38 = .ok (.ifCond .ge 7, 3) := by decide +kernel
theorem dX9_read_41 : decode cX9_read 41 = .ok (.iconst 0, 1) := by decide +kernel
theorem dX9_read_42 : decode cX9_read 42 = .ok (.goto 4, 3) := by decide +kernel
theorem dX9_read_45 : decode cX9_read 45 = .ok (.iload_n 2, 1) := by decide +kernel
theorem dX9_read_46 : decode cX9_read 46 = .ok (.ireturn, 1) := by decide +kernel
set_option maxRecDepth 20000 in
theorem ggX9_write_X9_at : GoodIn wsX9_write wsX9_at := goodIn_r _ [17, 3, 2, 4, 5, 7, 18, 9, 10, 11, 12, 19, 20, 21, 16, 22, 23, 8, 24, 25, 26, 27, 28, 29, 40, 41, 42, 43, 44, 45, 46, 47, 48, 49, 50, 51, 52, 53, 54, 55, 56, 57, 58, 59, 60, 61, 62, 63, 64, 65, 66, 67] (by decide +kernel) (by decide +kernel)
set_option maxRecDepth 20000 in
theorem gX9_write_X9_at : GoodIn wsX9_write (wsV RX9 90 RX9 yX9_at wsX9_at) := goodIn_app (goodIn_of _ (by decide +kernel)) ggX9_write_X9_at
theorem dX9_write_0 : decode cX9_write 0 = .ok (.aload_n 0, 1) := by decide +kernel
theorem dX9_write_1 : decode cX9_write 1 = .ok (.getfield 87, 3) := by decide +kernel
theorem dX9_write_4 : decode cX9_write 4 = .ok (.ifCond .le 4, 3) := by decide +kernel
theorem dX9_write_7 : decode cX9_write 7 = .ok (.return_, 1) := by decide +kernel
theorem dX9_write_8 : decode cX9_write 8 = .ok (.iload_n 1, 1) := by decide +kernel
theorem dX9_write_9 : decode cX9_write 9 = .ok (.ldc 64, 2) := by decide +kernel
theorem dX9_write_11 : decode cX9_write 11 = .ok (.isub, 1) := by decide +kernel
theorem dX9_write_12 : decode cX9_write 12 = .ok (.istore_n 3, 1) := by decide +kernel
theorem dX9_write_13 : decode cX9_write 13 = .ok (.aload_n 0, 1) := by decide +kernel
theorem dX9_write_14 : decode cX9_write 14 = .ok (.iload_n 1, 1) := by decide +kernel
theorem dX9_write_15 : decode cX9_write 15 = .ok (.invokevirtual 90, 3) := by decide +kernel
theorem dX9_write_18 : decode cX9_write 18 = .ok (.ifCond .ge 11, 3) := by decide +kernel
theorem dX9_write_21 : decode cX9_write 21 = .ok (.aload_n 0, 1) := by decide +kernel
theorem dX9_write_22 : decode cX9_write 22 = .ok (.iconst 4, 1) := by decide +kernel
theorem dX9_write_23 : decode cX9_write 23 = .ok (.putfield 87, 3) := by decide +kernel
theorem dX9_write_26 : decode cX9_write 26 = .ok (.goto 238, 3) := by decide +kernel
theorem dX9_write_29 : decode cX9_write 29 = .ok (.iload_n 3, 1) := by decide +kernel
theorem dX9_write_30 : decode cX9_write 30 = .ok (.ifCond .ge 15, 3) := by decide +kernel
theorem dX9_write_33 : decode cX9_write 33 = .ok (.aload_n 0, 1) := by decide +kernel
theorem dX9_write_34 : decode cX9_write 34 = .ok (.getfield 7, 3) := by decide +kernel
theorem dX9_write_37 : decode cX9_write 37 = .ok (.iload_n 1, 1) := by decide +kernel
theorem dX9_write_38 : decode cX9_write 38 = .ok (.iconst 2, 1) := by decide +kernel
theorem dX9_write_39 : decode cX9_write 39 = .ok (.idiv, 1) := by decide +kernel
theorem dX9_write_40 : decode cX9_write 40 = .ok (.iload_n 2, 1) := by decide +kernel
theorem dX9_write_41 : decode cX9_write 41 = .ok (.iastore, 1) := by decide +kernel
theorem dX9_write_42 : decode cX9_write 42 = .ok (.goto 222, 3) := by decide +kernel
theorem dX9_write_45 : decode cX9_write 45 = .ok (.iload_n 3, 1) := by decide +kernel
theorem dX9_write_46 : decode cX9_write 46 = .ok (.bipush 32, 2) := by decide +kernel
theorem dX9_write_48 : decode cX9_write 48 = .ok (.if_icmp .ge 19, 3) := by decide +kernel
theorem dX9_write_51 : decode cX9_write 51 = .ok (.aload_n 0, 1) := by decide +kernel
theorem dX9_write_52 : decode cX9_write 52 = .ok (.getfield 13, 3) := by decide +kernel
theorem dX9_write_55 : decode cX9_write 55 = .ok (.iload_n 3, 1) := by decide +kernel
theorem dX9_write_56 : decode cX9_write 56 = .ok (.iconst 2, 1) := by decide +kernel
theorem dX9_write_57 : decode cX9_write 57 = .ok (.idiv, 1) := by decide +kernel
theorem dX9_write_58 : decode cX9_write 58 = .ok (.iload_n 2, 1) := by decide +kernel
theorem dX9_write_59 : decode cX9_write 59 = .ok (.sipush 32515, 3) := by decide +kernel
theorem dX9_write_62 : decode cX9_write 62 = .ok (.iand, 1) := by decide +kernel
theorem dX9_write_63 : decode cX9_write 63 = .ok (.iastore, 1) := by decide +kernel
theorem dX9_write_64 : decode cX9_write 64 = .ok (.goto 200, 3) := by decide +kernel
theorem dX9_write_67 : decode cX9_write 67 = .ok (.iload_n 3, 1) := by decide +kernel
theorem dX9_write_68 : decode cX9_write 68 = .ok (.bipush 64, 2) := by decide +kernel
theorem dX9_write_70 : decode cX9_write 70 = .ok (.if_icmp .ge 22, 3) := by decide +kernel
theorem dX9_write_73 : decode cX9_write 73 = .ok (.aload_n 0, 1) := by decide +kernel
theorem dX9_write_74 : decode cX9_write 74 = .ok (.getfield 16, 3) := by decide +kernel
theorem dX9_write_77 : decode cX9_write 77 = .ok (.iload_n 3, 1) := by decide +kernel
theorem dX9_write_78 : decode cX9_write 78 = .ok (.iconst 2, 1) := by decide +kernel
theorem dX9_write_79 : decode cX9_write 79 = .ok (.idiv, 1) := by decide +kernel
theorem dX9_write_80 : decode cX9_write 80 = .ok (.bipush 16, 2) := by decide +kernel
theorem dX9_write_82 : decode cX9_write 82 = .ok (.isub, 1) := by decide +kernel
theorem dX9_write_83 : decode cX9_write 83 = .ok (.iload_n 2, 1) := by decide +kernel
theorem dX9_write_84 : decode cX9_write 84 = .ok (.sipush 1024, 3) := by decide +kernel
theorem dX9_write_87 : decode cX9_write 87 = .ok (.irem, 1) := by decide +kernel
theorem dX9_write_88 : decode cX9_write 88 = .ok (.iastore, 1) := by decide +kernel
theorem dX9_write_89 : decode cX9_write 89 = .ok (.goto 175, 3) := by decide +kernel
theorem dX9_write_92 : decode cX9_write 92 = .ok (.iload_n 3, 1) := by decide +kernel
theorem dX9_write_93 : decode cX9_write 93 = .ok (.bipush 64, 2) := by decide +kernel
theorem dX9_write_95 : decode cX9_write 95 = .ok (.if_icmp .ne 14, 3) := by decide +kernel
theorem dX9_write_98 : decode cX9_write 98 = .ok (.aload_n 0, 1) := by decide +kernel
theorem dX9_write_99 : decode cX9_write 99 = .ok (.iload_n 2, 1) := by decide +kernel
theorem dX9_write_100 : decode cX9_write 100 = .ok (.ldc 94, 2) := by decide +kernel
theorem dX9_write_102 : decode cX9_write 102 = .ok (.iand, 1) := by decide +kernel
theorem dX9_write_103 : decode cX9_write 103 = .ok (.putfield 65, 3) := by decide +kernel
theorem dX9_write_106 : decode cX9_write 106 = .ok (.goto 158, 3) := by decide +kernel
theorem dX9_write_109 : decode cX9_write 109 = .ok (.iload_n 3, 1) := by decide +kernel
theorem dX9_write_110 : decode cX9_write 110 = .ok (.bipush 80, 2) := by decide +kernel
theorem dX9_write_112 : decode cX9_write 112 = .ok (.if_icmp .ne 27, 3) := by decide +kernel
theorem dX9_write_115 : decode cX9_write 115 = .ok (.aload_n 0, 1) := by decide +kernel
theorem dX9_write_116 : decode cX9_write 116 = .ok (.getfield 30, 3) := by decide +kernel
theorem dX9_write_119 : decode cX9_write 119 = .ok (.iconst 1, 1) := by decide +kernel
theorem dX9_write_120 : decode cX9_write 120 = .ok (.iload_n 2, 1) := by decide +kernel
theorem dX9_write_121 : decode cX9_write 121 = .ok (.bipush 64, 2) := by decide +kernel
theorem dX9_write_123 : decode cX9_write 123 = .ok (.idiv, 1) := by decide +kernel
theorem dX9_write_124 : decode cX9_write 124 = .ok (.iconst 2, 1) := by decide +kernel
theorem dX9_write_125 : decode cX9_write 125 = .ok (.irem, 1) := by decide +kernel
theorem dX9_write_126 : decode cX9_write 126 = .ok (.iconst 1, 1) := by decide +kernel
theorem dX9_write_127 : decode cX9_write 127 = .ok (.if_icmp .ne 7, 3) := by decide +kernel
theorem dX9_write_130 : decode cX9_write 130 = .ok (.iconst 1, 1) := by decide +kernel
theorem dX9_write_131 : decode cX9_write 131 = .ok (.goto 4, 3) := by decide +kernel
theorem dX9_write_134 : decode cX9_write 134 = .ok (.iconst 0, 1) := by decide +kernel
theorem dX9_write_135 : decode cX9_write 135 = .ok (.bastore, 1) := by decide +kernel
theorem dX9_write_136 : decode cX9_write 136 = .ok (.goto 128, 3) := by decide +kernel
theorem dX9_write_139 : decode cX9_write 139 = .ok (.iload_n 3, 1) := by decide +kernel
theorem dX9_write_140 : decode cX9_write 140 = .ok (.bipush 84, 2) := by decide +kernel
theorem dX9_write_142 : decode cX9_write 142 = .ok (.if_icmp .ne 27, 3) := by decide +kernel
theorem dX9_write_145 : decode cX9_write 145 = .ok (.aload_n 0, 1) := by decide +kernel
theorem dX9_write_146 : decode cX9_write 146 = .ok (.getfield 30, 3) := by decide +kernel
theorem dX9_write_149 : decode cX9_write 149 = .ok (.iconst 2, 1) := by decide +kernel
theorem dX9_write_150 : decode cX9_write 150 = .ok (.iload_n 2, 1) := by decide +kernel
theorem dX9_write_151 : decode cX9_write 151 = .ok (.bipush 64, 2) := by decide +kernel
theorem dX9_write_153 : decode cX9_write 153 = .ok (.idiv, 1) := by decide +kernel
theorem dX9_write_154 : decode cX9_write 154 = .ok (.iconst 2, 1) := by decide +kernel
theorem dX9_write_155 : decode cX9_write 155 = .ok (.irem, 1) := by decide +kernel
theorem dX9_write_156 : decode cX9_write 156 = .ok (.iconst 1, 1) := by decide +kernel
theorem dX9_write_157 : decode cX9_write 157 = .ok (.if_icmp .ne 7, 3) := by decide +kernel
theorem dX9_write_160 : decode cX9_write 160 = .ok (.iconst 1, 1) := by decide +kernel
theorem dX9_write_161 : decode cX9_write 161 = .ok (.goto 4, 3) := by decide +kernel
theorem dX9_write_164 : decode cX9_write 164 = .ok (.iconst 0, 1) := by decide +kernel
theorem dX9_write_165 : decode cX9_write 165 = .ok (.bastore, 1) := by decide +kernel
theorem dX9_write_166 : decode cX9_write 166 = .ok (.goto 98, 3) := by decide +kernel
theorem dX9_write_169 : decode cX9_write 169 = .ok (.iload_n 3, 1) := by decide +kernel
theorem dX9_write_170 : decode cX9_write 170 = .ok (.bipush 86, 2) := by decide +kernel
theorem dX9_write_172 : decode cX9_write 172 = .ok (.if_icmp .ne 15, 3) := by decide +kernel
theorem dX9_write_175 : decode cX9_write 175 = .ok (.aload_n 0, 1) := by decide +kernel
theorem dX9_write_176 : decode cX9_write 176 = .ok (.iload_n 2, 1) := by decide +kernel
theorem dX9_write_177 : decode cX9_write 177 = .ok (.sipush 256, 3) := by decide +kernel
theorem dX9_write_180 : decode cX9_write 180 = .ok (.irem, 1) := by decide +kernel
theorem dX9_write_181 : decode cX9_write 181 = .ok (.invokevirtual 95, 3) := by decide +kernel
theorem dX9_write_184 : decode cX9_write 184 = .ok (.goto 80, 3) := by decide +kernel
theorem dX9_write_187 : decode cX9_write 187 = .ok (.iload_n 3, 1) := by decide +kernel
theorem dX9_write_188 : decode cX9_write 188 = .ok (.bipush 96, 2) := by decide +kernel
theorem dX9_write_190 : decode cX9_write 190 = .ok (.if_icmp .ne 11, 3) := by decide +kernel
theorem dX9_write_193 : decode cX9_write 193 = .ok (.aload_n 0, 1) := by decide +kernel
theorem dX9_write_194 : decode cX9_write 194 = .ok (.iload_n 2, 1) := by decide +kernel
theorem dX9_write_195 : decode cX9_write 195 = .ok (.invokevirtual 99, 3) := by decide +kernel
theorem dX9_write_198 : decode cX9_write 198 = .ok (.goto 66, 3) := by decide +kernel
theorem dX9_write_201 : decode cX9_write 201 = .ok (.iload_n 3, 1) := by decide +kernel
theorem dX9_write_202 : decode cX9_write 202 = .ok (.bipush 98, 2) := by decide +kernel
theorem dX9_write_204 : decode cX9_write 204 = .ok (.if_icmp .ne 14, 3) := by decide +kernel
theorem dX9_write_207 : decode cX9_write 207 = .ok (.aload_n 0, 1) := by decide +kernel
theorem dX9_write_208 : decode cX9_write 208 = .ok (.iload_n 2, 1) := by decide +kernel
theorem dX9_write_209 : decode cX9_write 209 = .ok (.bipush 64, 2) := by decide +kernel
theorem dX9_write_211 : decode cX9_write 211 = .ok (.irem, 1) := by decide +kernel
theorem dX9_write_212 : decode cX9_write 212 = .ok (.putfield 75, 3) := by decide +kernel
theorem dX9_write_215 : decode cX9_write 215 = .ok (.goto 49, 3) := by decide +kernel
theorem dX9_write_218 : decode cX9_write 218 = .ok (.iload_n 3, 1) := by decide +kernel
theorem dX9_write_219 : decode cX9_write 219 = .ok (.bipush 100, 2) := by decide +kernel
theorem dX9_write_221 : decode cX9_write 221 = .ok (.if_icmp .ne 11, 3) := by decide +kernel
theorem dX9_write_224 : decode cX9_write 224 = .ok (.aload_n 0, 1) := by decide +kernel
theorem dX9_write_225 : decode cX9_write 225 = .ok (.iload_n 2, 1) := by decide +kernel
theorem dX9_write_226 : decode cX9_write 226 = .ok (.putfield 78, 3) := by decide +kernel
theorem dX9_write_229 : decode cX9_write 229 = .ok (.goto 35, 3) := by decide +kernel
theorem dX9_write_232 : decode cX9_write 232 = .ok (.iload_n 3, 1) := by decide +kernel
theorem dX9_write_233 : decode cX9_write 233 = .ok (.bipush 102, 2) := by decide +kernel
theorem dX9_write_235 : decode cX9_write 235 = .ok (.if_icmp .ne 14, 3) := by decide +kernel
theorem dX9_write_238 : decode cX9_write 238 = .ok (.aload_n 0, 1) := by decide +kernel
theorem dX9_write_239 : decode cX9_write 239 = .ok (.iload_n 2, 1) := by decide +kernel
theorem dX9_write_240 : decode cX9_write 240 = .ok (.bipush 8, 2) := by decide +kernel
theorem dX9_write_242 : decode cX9_write 242 = .ok (.irem, 1) := by decide +kernel
theorem dX9_write_243 : decode cX9_write 243 = .ok (.putfield 81, 3) := by decide +kernel
theorem dX9_write_246 : decode cX9_write 246 = .ok (.goto 18, 3) := by decide +kernel
theorem dX9_write_249 : decode cX9_write 249 = .ok (.iload_n 3, 1) := by decide +kernel
theorem dX9_write_250 : decode cX9_write 250 = .ok (.bipush 126, 2) := by decide +kernel
theorem dX9_write_252 : decode cX9_write 252 = .ok (.if_icmp .ne 12, 3) := by decide +kernel
theorem dX9_write_255 : decode cX9_write 255 = .ok (.aload_n 0, 1) := by decide +kernel
theorem dX9_write_256 : decode cX9_write 256 = .ok (.iload_n 2, 1) := by decide +kernel
theorem dX9_write_257 : decode cX9_write 257 = .ok (.sipush 20719, 3) := by decide +kernel
theorem dX9_write_260 : decode cX9_write 260 = .ok (.iand, 1) := by decide +kernel
theorem dX9_write_261 : decode cX9_write 261 = .ok (.putfield 84, 3) := by decide +kernel
theorem dX9_write_264 : decode cX9_write 264 = .ok (.return_, 1) := by decide +kernel
theorem dX9_mapped_0 : decode cX9_mapped 0 = .ok (.aload_n 0, 1) := by decide +kernel
theorem dX9_mapped_1 : decode cX9_mapped 1 = .ok (.getfield 87, 3) := by decide +kernel
theorem dX9_mapped_4 : decode cX9_mapped 4 = .ok (.ifCond .gt 12, 3) := by decide +kernel
theorem dX9_mapped_7 : decode cX9_mapped 7 = .ok (.aload_n 0, 1) := by decide +kernel
theorem dX9_mapped_8 : decode cX9_mapped 8 = .ok (.getfield 65, 3) := by decide +kernel
theorem dX9_mapped_11 : decode cX9_mapped 11 = .ok (.iconst 2, 1) := by decide +kernel
theorem dX9_mapped_12 : decode cX9_mapped 12 = .ok (.irem, 1) := by decide +kernel
theorem dX9_mapped_13 : decode cX9_mapped 13 = .ok (.ifCond .ne 5, 3) := by decide +kernel
theorem dX9_mapped_16 : decode cX9_mapped 16 = .ok (.iload_n 1, 1) := by decide +kernel
theorem dX9_mapped_17 : decode cX9_mapped 17 = .ok (.ireturn, 1) := by decide +kernel
theorem dX9_mapped_18 : decode cX9_mapped 18 = .ok (.iload_n 1, 1) := by decide +kernel
theorem dX9_mapped_19 : decode cX9_mapped 19 = .ok (.sipush 8192, 3) := by decide +kernel
theorem dX9_mapped_22 : decode cX9_mapped 22 = .ok (.idiv, 1) := by decide +kernel
theorem dX9_mapped_23 : decode cX9_mapped 23 = .ok (.istore 4, 2) := by decide +kernel
theorem dX9_mapped_25 : decode cX9_mapped 25 = .ok (.iload_n 1, 1) := by decide +kernel
theorem dX9_mapped_26 : decode cX9_mapped 26 = .ok (.sipush 8192, 3) := by decide +kernel
theorem dX9_mapped_29 : decode cX9_mapped 29 = .ok (.irem, 1) := by decide +kernel
theorem dX9_mapped_30 : decode cX9_mapped 30 = .ok (.istore 5, 2) := by decide +kernel
theorem dX9_mapped_32 : decode cX9_mapped 32 = .ok (.aload_n 0, 1) := by decide +kernel
theorem dX9_mapped_33 : decode cX9_mapped 33 = .ok (.getfield 13, 3) := by decide +kernel
theorem dX9_mapped_36 : decode cX9_mapped 36 = .ok (.bipush 8, 2) := by decide +kernel
theorem dX9_mapped_38 : decode cX9_mapped 38 = .ok (.iload_n 2, 1) := by decide +kernel
theorem dX9_mapped_39 : decode cX9_mapped 39 = .ok (.imul, 1) := by decide +kernel
theorem dX9_mapped_40 : decode cX9_mapped 40 = .ok (.iload 4, 2) := by decide +kernel
theorem dX9_mapped_42 : decode cX9_mapped 42 = .ok (.iadd, 1) := by decide +kernel
theorem dX9_mapped_43 : decode cX9_mapped 43 = .ok (.iaload, 1) := by decide +kernel
theorem dX9_mapped_44 : decode cX9_mapped 44 = .ok (.istore 6, 2) := by decide +kernel
theorem dX9_mapped_46 : decode cX9_mapped 46 = .ok (.iload 6, 2) := by decide +kernel
theorem dX9_mapped_48 : decode cX9_mapped 48 = .ok (.iconst 4, 1) := by decide +kernel
theorem dX9_mapped_49 : decode cX9_mapped 49 = .ok (.irem, 1) := by decide +kernel
theorem dX9_mapped_50 : decode cX9_mapped 50 = .ok (.ifCond .eq 11, 3) := by decide +kernel
theorem dX9_mapped_53 : decode cX9_mapped 53 = .ok (.iload 6, 2) := by decide +kernel
theorem dX9_mapped_55 : decode cX9_mapped 55 = .ok (.iconst 4, 1) := by decide +kernel
theorem dX9_mapped_56 : decode cX9_mapped 56 = .ok (.irem, 1) := by decide +kernel
theorem dX9_mapped_57 : decode cX9_mapped 57 = .ok (.iconst 3, 1) := by decide +kernel
theorem dX9_mapped_58 : decode cX9_mapped 58 = .ok (.if_icmp .ne 7, 3) := by decide +kernel
theorem dX9_mapped_61 : decode cX9_mapped 61 = .ok (.iconst 4, 1) := by decide +kernel
theorem dX9_mapped_62 : decode cX9_mapped 62 = .ok (.goto 38, 3) := by decide +kernel
theorem dX9_mapped_65 : decode cX9_mapped 65 = .ok (.iload 5, 2) := by decide +kernel
theorem dX9_mapped_67 : decode cX9_mapped 67 = .ok (.bipush 64, 2) := by decide +kernel
theorem dX9_mapped_69 : decode cX9_mapped 69 = .ok (.idiv, 1) := by decide +kernel
theorem dX9_mapped_70 : decode cX9_mapped 70 = .ok (.iload 6, 2) := by decide +kernel
theorem dX9_mapped_72 : decode cX9_mapped 72 = .ok (.sipush 256, 3) := by decide +kernel
theorem dX9_mapped_75 : decode cX9_mapped 75 = .ok (.idiv, 1) := by decide +kernel
theorem dX9_mapped_76 : decode cX9_mapped 76 = .ok (.if_icmp .le 7, 3) := by decide +kernel
theorem dX9_mapped_79 : decode cX9_mapped 79 = .ok (.iconst 2, 1) := by decide +kernel
theorem dX9_mapped_80 : decode cX9_mapped 80 = .ok (.goto 20, 3) := by decide +kernel
theorem dX9_mapped_83 : decode cX9_mapped 83 = .ok (.iload_n 3, 1) := by decide +kernel
theorem dX9_mapped_84 : decode cX9_mapped 84 = .ok (.ifCond .eq 15, 3) := by decide +kernel
theorem dX9_mapped_87 : decode cX9_mapped 87 = .ok (.iload 6, 2) := by decide +kernel
theorem dX9_mapped_89 : decode cX9_mapped 89 = .ok (.iconst 4, 1) := by decide +kernel
theorem dX9_mapped_90 : decode cX9_mapped 90 = .ok (.irem, 1) := by decide +kernel
theorem dX9_mapped_91 : decode cX9_mapped 91 = .ok (.iconst 1, 1) := by decide +kernel
theorem dX9_mapped_92 : decode cX9_mapped 92 = .ok (.if_icmp .ne 7, 3) := by decide +kernel
theorem dX9_mapped_95 : decode cX9_mapped 95 = .ok (.iconst 1, 1) := by decide +kernel
theorem dX9_mapped_96 : decode cX9_mapped 96 = .ok (.goto 4, 3) := by decide +kernel
theorem dX9_mapped_99 : decode cX9_mapped 99 = .ok (.iconst 0, 1) := by decide +kernel
theorem dX9_mapped_100 : decode cX9_mapped 100 = .ok (.istore 7, 2) := by decide +kernel
theorem dX9_mapped_102 : decode cX9_mapped 102 = .ok (.iload 7, 2) := by decide +kernel
theorem dX9_mapped_104 : decode cX9_mapped 104 = .ok (.ifCond .ne 25, 3) := by decide +kernel
theorem dX9_mapped_107 : decode cX9_mapped 107 = .ok (.bipush 64, 2) := by decide +kernel
theorem dX9_mapped_109 : decode cX9_mapped 109 = .ok (.aload_n 0, 1) := by decide +kernel
theorem dX9_mapped_110 : decode cX9_mapped 110 = .ok (.getfield 16, 3) := by decide +kernel
theorem dX9_mapped_113 : decode cX9_mapped 113 = .ok (.bipush 8, 2) := by decide +kernel
theorem dX9_mapped_115 : decode cX9_mapped 115 = .ok (.iload_n 2, 1) := by decide +kernel
theorem dX9_mapped_116 : decode cX9_mapped 116 = .ok (.imul, 1) := by decide +kernel
theorem dX9_mapped_117 : decode cX9_mapped 117 = .ok (.iload 4, 2) := by decide +kernel
theorem dX9_mapped_119 : decode cX9_mapped 119 = .ok (.iadd, 1) := by decide +kernel
theorem dX9_mapped_120 : decode cX9_mapped 120 = .ok (.iaload, 1) := by decide +kernel
theorem dX9_mapped_121 : decode cX9_mapped 121 = .ok (.imul, 1) := by decide +kernel
theorem dX9_mapped_122 : decode cX9_mapped 122 = .ok (.iload 5, 2) := by decide +kernel
theorem dX9_mapped_124 : decode cX9_mapped 124 = .ok (.iadd, 1) := by decide +kernel
theorem dX9_mapped_125 : decode cX9_mapped 125 = .ok (.ldc 51, 2) := by decide +kernel
theorem dX9_mapped_127 : decode cX9_mapped 127 = .ok (.irem, 1) := by decide +kernel
theorem dX9_mapped_128 : decode cX9_mapped 128 = .ok (.ireturn, 1) := by decide +kernel
theorem dX9_mapped_129 : decode cX9_mapped 129 = .ok (.aload_n 0, 1) := by decide +kernel
theorem dX9_mapped_130 : decode cX9_mapped 130 = .ok (.getfield 65, 3) := by decide +kernel
theorem dX9_mapped_133 : decode cX9_mapped 133 = .ok (.sipush 8192, 3) := by decide +kernel
theorem dX9_mapped_136 : decode cX9_mapped 136 = .ok (.if_icmp .ge 25, 3) := by decide +kernel
theorem dX9_mapped_139 : decode cX9_mapped 139 = .ok (.aload_n 0, 1) := by decide +kernel
theorem dX9_mapped_140 : decode cX9_mapped 140 = .ok (.iconst 1, 1) := by decide +kernel
theorem dX9_mapped_141 : decode cX9_mapped 141 = .ok (.sipush 8192, 3) := by decide +kernel
theorem dX9_mapped_144 : decode cX9_mapped 144 = .ok (.iload 7, 2) := by decide +kernel
theorem dX9_mapped_146 : decode cX9_mapped 146 = .ok (.imul, 1) := by decide +kernel
theorem dX9_mapped_147 : decode cX9_mapped 147 = .ok (.iadd, 1) := by decide +kernel
theorem dX9_mapped_148 : decode cX9_mapped 148 = .ok (.iconst 2, 1) := by decide +kernel
theorem dX9_mapped_149 : decode cX9_mapped 149 = .ok (.iload 4, 2) := by decide +kernel
theorem dX9_mapped_151 : decode cX9_mapped 151 = .ok (.imul, 1) := by decide +kernel
theorem dX9_mapped_152 : decode cX9_mapped 152 = .ok (.iadd, 1) := by decide +kernel
theorem dX9_mapped_153 : decode cX9_mapped 153 = .ok (.bipush 16, 2) := by decide +kernel
theorem dX9_mapped_155 : decode cX9_mapped 155 = .ok (.iload_n 2, 1) := by decide +kernel
theorem dX9_mapped_156 : decode cX9_mapped 156 = .ok (.imul, 1) := by decide +kernel
theorem dX9_mapped_157 : decode cX9_mapped 157 = .ok (.iadd, 1) := by decide +kernel
theorem dX9_mapped_158 : decode cX9_mapped 158 = .ok (.putfield 65, 3) := by decide +kernel
theorem dX9_mapped_161 : decode cX9_mapped 161 = .ok (.aload_n 0, 1) := by decide +kernel
theorem dX9_mapped_162 : decode cX9_mapped 162 = .ok (.sipush 168, 3) := by decide +kernel
theorem dX9_mapped_165 : decode cX9_mapped 165 = .ok (.putfield 87, 3) := by decide +kernel
theorem dX9_mapped_168 : decode cX9_mapped 168 = .ok (.iconst 0, 1) := by decide +kernel
theorem dX9_mapped_169 : decode cX9_mapped 169 = .ok (.ireturn, 1) := by decide +kernel
set_option maxRecDepth 20000 in
theorem ggX9_wordAt_X9_mapped : GoodIn wsX9_wordAt wsX9_mapped := goodIn_r _ [6, 1, 7, 8, 9, 10, 39, 40, 41, 42, 43, 44, 45, 46, 47, 48, 49, 50, 51, 52, 53, 54, 55, 56, 57, 58, 59, 60, 61, 62, 63, 64, 65, 66] (by decide +kernel) (by decide +kernel)
set_option maxRecDepth 20000 in
theorem gX9_wordAt_X9_mapped : GoodIn wsX9_wordAt (wsV RX9 105 RX9 yX9_mapped wsX9_mapped) := goodIn_app (goodIn_of _ (by decide +kernel)) ggX9_wordAt_X9_mapped
set_option maxRecDepth 20000 in
theorem ggX9_wordAt_X9_read : GoodIn wsX9_wordAt wsX9_read := goodIn_r _ [14, 1, 15, 16, 17, 18, 19, 5, 20, 21, 22, 8, 9, 7, 23, 24, 25, 26, 27, 28, 29, 30, 31, 32, 33, 34, 35, 36, 37, 38, 39, 40, 41, 42, 43, 44, 45, 46, 47, 48, 49, 50, 51, 52, 53, 54, 55, 56, 57, 58, 59, 60, 61, 62, 63, 64, 65, 66] (by decide +kernel) (by decide +kernel)
set_option maxRecDepth 20000 in
theorem gX9_wordAt_X9_read : GoodIn wsX9_wordAt (wsV RX9 109 RX9 yX9_read wsX9_read) := goodIn_app (goodIn_of _ (by decide +kernel)) ggX9_wordAt_X9_read
theorem dX9_wordAt_0 : decode cX9_wordAt 0 = .ok (.aload_n 0, 1) := by decide +kernel
theorem dX9_wordAt_1 : decode cX9_wordAt 1 = .ok (.getfield 87, 3) := by decide +kernel
theorem dX9_wordAt_4 : decode cX9_wordAt 4 = .ok (.ifCond .ne 15, 3) := by decide +kernel
theorem dX9_wordAt_7 : decode cX9_wordAt 7 = .ok (.iload_n 1, 1) := by decide +kernel
theorem dX9_wordAt_8 : decode cX9_wordAt 8 = .ok (.iconst 2, 1) := by decide +kernel
theorem dX9_wordAt_9 : decode cX9_wordAt 9 = .ok (.irem, 1) := by decide +kernel
theorem dX9_wordAt_10 : decode cX9_wordAt 10 = .ok (.iconst 1, 1) := by decide +kernel
theorem dX9_wordAt_11 : decode cX9_wordAt 11 = .ok (.if_icmp .ne 8, 3) := by decide +kernel
theorem dX9_wordAt_14 : decode cX9_wordAt 14 = .ok (.aload_n 0, 1) := by decide +kernel
theorem dX9_wordAt_15 : decode cX9_wordAt 15 = .ok (.iconst 4, 1) := by decide +kernel
theorem dX9_wordAt_16 : decode cX9_wordAt 16 = .ok (.putfield 87, 3) := by decide +kernel
theorem dX9_wordAt_19 : decode cX9_wordAt 19 = .ok (.aload_n 0, 1) := by decide +kernel
theorem dX9_wordAt_20 : decode cX9_wordAt 20 = .ok (.aload_n 0, 1) := by decide +kernel
theorem dX9_wordAt_21 : decode cX9_wordAt 21 = .ok (.iload_n 1, 1) := by decide +kernel
theorem dX9_wordAt_22 : decode cX9_wordAt 22 = .ok (.iload_n 2, 1) := by decide +kernel
theorem dX9_wordAt_23 : decode cX9_wordAt 23 = .ok (.iconst 0, 1) := by decide +kernel
theorem dX9_wordAt_24 : decode cX9_wordAt 24 = .ok (.invokevirtual 105, 3) := by decide +kernel
theorem dX9_wordAt_27 : decode cX9_wordAt 27 = .ok (.invokevirtual 109, 3) := by decide +kernel
theorem dX9_wordAt_30 : decode cX9_wordAt 30 = .ok (.ireturn, 1) := by decide +kernel
set_option maxRecDepth 20000 in
theorem ggX9_setWord_X9_mapped : GoodIn wsX9_setWord wsX9_mapped := goodIn_r _ [6, 1, 7, 8, 9, 10, 49, 50, 51, 52, 53, 54, 55, 56, 57, 58, 59, 60, 61, 62, 63, 64, 65, 66, 67, 68, 69, 70, 71, 72, 73, 74, 75, 76] (by decide +kernel) (by decide +kernel)
set_option maxRecDepth 20000 in
theorem gX9_setWord_X9_mapped : GoodIn wsX9_setWord (wsV RX9 105 RX9 yX9_mapped wsX9_mapped) := goodIn_app (goodIn_of _ (by decide +kernel)) ggX9_setWord_X9_mapped
set_option maxRecDepth 20000 in
theorem ggX9_setWord_X9_write : GoodIn wsX9_setWord wsX9_write := goodIn_r _ [14, 1, 15, 16, 8, 9, 17, 7, 18, 19, 20, 21, 22, 23, 24, 25, 5, 26, 27, 28, 29, 30, 31, 32, 33, 34, 35, 36, 37, 38, 39, 40, 41, 42, 43, 44, 45, 46, 47, 48, 49, 50, 51, 52, 53, 54, 55, 56, 57, 58, 59, 60, 61, 62, 63, 64, 65, 66, 67, 68, 69, 70, 71, 72, 73, 74, 75, 76] (by decide +kernel) (by decide +kernel)
set_option maxRecDepth 20000 in
theorem gX9_setWord_X9_write : GoodIn wsX9_setWord (wsV RX9 112 RX9 yX9_write wsX9_write) := goodIn_app (goodIn_of _ (by decide +kernel)) ggX9_setWord_X9_write
theorem dX9_setWord_0 : decode cX9_setWord 0 = .ok (.aload_n 0, 1) := by decide +kernel
theorem dX9_setWord_1 : decode cX9_setWord 1 = .ok (.getfield 87, 3) := by decide +kernel
theorem dX9_setWord_4 : decode cX9_setWord 4 = .ok (.ifCond .ne 15, 3) := by decide +kernel
theorem dX9_setWord_7 : decode cX9_setWord 7 = .ok (.iload_n 1, 1) := by decide +kernel
theorem dX9_setWord_8 : decode cX9_setWord 8 = .ok (.iconst 2, 1) := by decide +kernel
theorem dX9_setWord_9 : decode cX9_setWord 9 = .ok (.irem, 1) := by decide +kernel
theorem dX9_setWord_10 : decode cX9_setWord 10 = .ok (.iconst 1, 1) := by decide +kernel
theorem dX9_setWord_11 : decode cX9_setWord 11 = .ok (.if_icmp .ne 8, 3) := by decide +kernel
theorem dX9_setWord_14 : decode cX9_setWord 14 = .ok (.aload_n 0, 1) := by decide +kernel
theorem dX9_setWord_15 : decode cX9_setWord 15 = .ok (.iconst 4, 1) := by decide +kernel
theorem dX9_setWord_16 : decode cX9_setWord 16 = .ok (.putfield 87, 3) := by decide +kernel
theorem dX9_setWord_19 : decode cX9_setWord 19 = .ok (.aload_n 0, 1) := by decide +kernel
theorem dX9_setWord_20 : decode cX9_setWord 20 = .ok (.aload_n 0, 1) := by decide +kernel
theorem dX9_setWord_21 : decode cX9_setWord 21 = .ok (.iload_n 1, 1) := by decide +kernel
theorem dX9_setWord_22 : decode cX9_setWord 22 = .ok (.iload_n 2, 1) := by decide +kernel
theorem dX9_setWord_23 : decode cX9_setWord 23 = .ok (.iconst 1, 1) := by decide +kernel
theorem dX9_setWord_24 : decode cX9_setWord 24 = .ok (.invokevirtual 105, 3) := by decide +kernel
theorem dX9_setWord_27 : decode cX9_setWord 27 = .ok (.iload_n 3, 1) := by decide +kernel
theorem dX9_setWord_28 : decode cX9_setWord 28 = .ok (.invokevirtual 112, 3) := by decide +kernel
theorem dX9_setWord_31 : decode cX9_setWord 31 = .ok (.return_, 1) := by decide +kernel
theorem dX9_settle_0 : decode cX9_settle 0 = .ok (.aload_n 0, 1) := by decide +kernel
theorem dX9_settle_1 : decode cX9_settle 1 = .ok (.getfield 84, 3) := by decide +kernel
theorem dX9_settle_4 : decode cX9_settle 4 = .ok (.sipush 16384, 3) := by decide +kernel
theorem dX9_settle_7 : decode cX9_settle 7 = .ok (.idiv, 1) := by decide +kernel
theorem dX9_settle_8 : decode cX9_settle 8 = .ok (.iconst 2, 1) := by decide +kernel
theorem dX9_settle_9 : decode cX9_settle 9 = .ok (.irem, 1) := by decide +kernel
theorem dX9_settle_10 : decode cX9_settle 10 = .ok (.istore_n 1, 1) := by decide +kernel
theorem dX9_settle_11 : decode cX9_settle 11 = .ok (.iload_n 1, 1) := by decide +kernel
theorem dX9_settle_12 : decode cX9_settle 12 = .ok (.aload_n 0, 1) := by decide +kernel
theorem dX9_settle_13 : decode cX9_settle 13 = .ok (.getfield 116, 3) := by decide +kernel
theorem dX9_settle_16 : decode cX9_settle 16 = .ok (.if_icmp .ne 4, 3) := by decide +kernel
theorem dX9_settle_19 : decode cX9_settle 19 = .ok (.return_, 1) := by decide +kernel
theorem dX9_settle_20 : decode cX9_settle 20 = .ok (.aload_n 0, 1) := by decide +kernel
theorem dX9_settle_21 : decode cX9_settle 21 = .ok (.getfield 19, 3) := by decide +kernel
theorem dX9_settle_24 : decode cX9_settle 24 = .ok (.bipush 6, 2) := by decide +kernel
theorem dX9_settle_26 : decode cX9_settle 26 = .ok (.iaload, 1) := by decide +kernel
theorem dX9_settle_27 : decode cX9_settle 27 = .ok (.istore_n 2, 1) := by decide +kernel
theorem dX9_settle_28 : decode cX9_settle 28 = .ok (.aload_n 0, 1) := by decide +kernel
theorem dX9_settle_29 : decode cX9_settle 29 = .ok (.getfield 19, 3) := by decide +kernel
theorem dX9_settle_32 : decode cX9_settle 32 = .ok (.bipush 6, 2) := by decide +kernel
theorem dX9_settle_34 : decode cX9_settle 34 = .ok (.aload_n 0, 1) := by decide +kernel
theorem dX9_settle_35 : decode cX9_settle 35 = .ok (.getfield 119, 3) := by decide +kernel
theorem dX9_settle_38 : decode cX9_settle 38 = .ok (.iastore, 1) := by decide +kernel
theorem dX9_settle_39 : decode cX9_settle 39 = .ok (.aload_n 0, 1) := by decide +kernel
theorem dX9_settle_40 : decode cX9_settle 40 = .ok (.iload_n 2, 1) := by decide +kernel
theorem dX9_settle_41 : decode cX9_settle 41 = .ok (.putfield 119, 3) := by decide +kernel
theorem dX9_settle_44 : decode cX9_settle 44 = .ok (.aload_n 0, 1) := by decide +kernel
theorem dX9_settle_45 : decode cX9_settle 45 = .ok (.iload_n 1, 1) := by decide +kernel
theorem dX9_settle_46 : decode cX9_settle 46 = .ok (.putfield 116, 3) := by decide +kernel
theorem dX9_settle_49 : decode cX9_settle 49 = .ok (.return_, 1) := by decide +kernel
theorem dX9_put_0 : decode cX9_put 0 = .ok (.aload_n 0, 1) := by decide +kernel
theorem dX9_put_1 : decode cX9_put 1 = .ok (.getfield 87, 3) := by decide +kernel
theorem dX9_put_4 : decode cX9_put 4 = .ok (.ifCond .ne 13, 3) := by decide +kernel
theorem dX9_put_7 : decode cX9_put 7 = .ok (.aload_n 0, 1) := by decide +kernel
theorem dX9_put_8 : decode cX9_put 8 = .ok (.getfield 19, 3) := by decide +kernel
theorem dX9_put_11 : decode cX9_put 11 = .ok (.iload_n 1, 1) := by decide +kernel
theorem dX9_put_12 : decode cX9_put 12 = .ok (.iload_n 2, 1) := by decide +kernel
theorem dX9_put_13 : decode cX9_put 13 = .ok (.ldc 122, 2) := by decide +kernel
theorem dX9_put_15 : decode cX9_put 15 = .ok (.iand, 1) := by decide +kernel
theorem dX9_put_16 : decode cX9_put 16 = .ok (.iastore, 1) := by decide +kernel
theorem dX9_put_17 : decode cX9_put 17 = .ok (.return_, 1) := by decide +kernel
set_option maxRecDepth 20000 in
theorem ggX9_fetch_X9_wordAt : GoodIn wsX9_fetch wsX9_wordAt := goodIn_r _ [7, 8, 9, 10, 11, 6, 12, 13, 14, 15, 16, 17, 18, 19, 20, 21, 22, 23, 24, 25, 26, 27, 28, 29, 30, 31, 32, 33, 34, 35, 36, 37, 38, 39, 40, 41, 42, 43, 44, 50, 51, 52, 53, 54, 55, 56, 57, 58, 59, 60, 61, 62, 63, 64, 65, 66, 67, 68, 69, 70, 71, 72, 73, 74, 75, 76, 77] (by decide +kernel) (by decide +kernel)
set_option maxRecDepth 20000 in
theorem gX9_fetch_X9_wordAt : GoodIn wsX9_fetch (wsV RX9 123 RX9 yX9_wordAt wsX9_wordAt) := goodIn_app (goodIn_of _ (by decide +kernel)) ggX9_fetch_X9_wordAt
set_option maxRecDepth 20000 in
theorem ggX9_fetch_X9_put : GoodIn wsX9_fetch wsX9_put := goodIn_r _ [48, 8, 1, 49, 50, 51, 52, 53, 54, 55, 56, 57, 58, 59, 60, 61, 62, 63, 64, 65, 66, 67, 68, 69, 70, 71, 72, 73, 74, 75, 76, 77] (by decide +kernel) (by decide +kernel)
set_option maxRecDepth 20000 in
theorem gX9_fetch_X9_put : GoodIn wsX9_fetch (wsV RX9 127 RX9 yX9_put wsX9_put) := goodIn_app (goodIn_of _ (by decide +kernel)) ggX9_fetch_X9_put
theorem dX9_fetch_0 : decode cX9_fetch 0 = .ok (.aload_n 0, 1) := by decide +kernel
theorem dX9_fetch_1 : decode cX9_fetch 1 = .ok (.aload_n 0, 1) := by decide +kernel
theorem dX9_fetch_2 : decode cX9_fetch 2 = .ok (.getfield 19, 3) := by decide +kernel
theorem dX9_fetch_5 : decode cX9_fetch 5 = .ok (.bipush 7, 2) := by decide +kernel
theorem dX9_fetch_7 : decode cX9_fetch 7 = .ok (.iaload, 1) := by decide +kernel
theorem dX9_fetch_8 : decode cX9_fetch 8 = .ok (.aload_n 0, 1) := by decide +kernel
theorem dX9_fetch_9 : decode cX9_fetch 9 = .ok (.getfield 116, 3) := by decide +kernel
theorem dX9_fetch_12 : decode cX9_fetch 12 = .ok (.invokevirtual 123, 3) := by decide +kernel
theorem dX9_fetch_15 : decode cX9_fetch 15 = .ok (.istore_n 1, 1) := by decide +kernel
theorem dX9_fetch_16 : decode cX9_fetch 16 = .ok (.aload_n 0, 1) := by decide +kernel
theorem dX9_fetch_17 : decode cX9_fetch 17 = .ok (.bipush 7, 2) := by decide +kernel
theorem dX9_fetch_19 : decode cX9_fetch 19 = .ok (.aload_n 0, 1) := by decide +kernel
theorem dX9_fetch_20 : decode cX9_fetch 20 = .ok (.getfield 19, 3) := by decide +kernel
theorem dX9_fetch_23 : decode cX9_fetch 23 = .ok (.bipush 7, 2) := by decide +kernel
theorem dX9_fetch_25 : decode cX9_fetch 25 = .ok (.iaload, 1) := by decide +kernel
theorem dX9_fetch_26 : decode cX9_fetch 26 = .ok (.iconst 2, 1) := by decide +kernel
theorem dX9_fetch_27 : decode cX9_fetch 27 = .ok (.iadd, 1) := by decide +kernel
theorem dX9_fetch_28 : decode cX9_fetch 28 = .ok (.invokevirtual 127, 3) := by decide +kernel
theorem dX9_fetch_31 : decode cX9_fetch 31 = .ok (.iload_n 1, 1) := by decide +kernel
theorem dX9_fetch_32 : decode cX9_fetch 32 = .ok (.ireturn, 1) := by decide +kernel
set_option maxRecDepth 20000 in
theorem ggX9_push_X9_put : GoodIn wsX9_push wsX9_put := goodIn_r _ [7, 8, 1, 9, 60, 61, 62, 63, 64, 65, 66, 67, 68, 69, 70, 71, 72, 73, 74, 75, 76, 77, 78, 79, 80, 81, 82, 83, 84, 85, 86, 87] (by decide +kernel) (by decide +kernel)
set_option maxRecDepth 20000 in
theorem gX9_push_X9_put : GoodIn wsX9_push (wsV RX9 127 RX9 yX9_put wsX9_put) := goodIn_app (goodIn_of _ (by decide +kernel)) ggX9_push_X9_put
set_option maxRecDepth 20000 in
theorem ggX9_push_X9_setWord : GoodIn wsX9_push wsX9_setWord := goodIn_r _ [13, 8, 14, 15, 16, 6, 17, 18, 19, 20, 21, 22, 23, 24, 25, 26, 27, 28, 29, 30, 31, 32, 33, 34, 35, 36, 37, 38, 39, 40, 41, 42, 43, 44, 45, 46, 47, 48, 49, 50, 51, 52, 53, 54, 55, 56, 57, 58, 59, 60, 61, 62, 63, 64, 65, 66, 67, 68, 69, 70, 71, 72, 73, 74, 75, 76, 77, 78, 79, 80, 81, 82, 83, 84, 85, 86, 87] (by decide +kernel) (by decide +kernel)
set_option maxRecDepth 20000 in
theorem gX9_push_X9_setWord : GoodIn wsX9_push (wsV RX9 130 RX9 yX9_setWord wsX9_setWord) := goodIn_app (goodIn_of _ (by decide +kernel)) ggX9_push_X9_setWord
theorem dX9_push_0 : decode cX9_push 0 = .ok (.aload_n 0, 1) := by decide +kernel
theorem dX9_push_1 : decode cX9_push 1 = .ok (.bipush 6, 2) := by decide +kernel
theorem dX9_push_3 : decode cX9_push 3 = .ok (.aload_n 0, 1) := by decide +kernel
theorem dX9_push_4 : decode cX9_push 4 = .ok (.getfield 19, 3) := by decide +kernel
theorem dX9_push_7 : decode cX9_push 7 = .ok (.bipush 6, 2) := by decide +kernel
theorem dX9_push_9 : decode cX9_push 9 = .ok (.iaload, 1) := by decide +kernel
theorem dX9_push_10 : decode cX9_push 10 = .ok (.iconst 2, 1) := by decide +kernel
theorem dX9_push_11 : decode cX9_push 11 = .ok (.isub, 1) := by decide +kernel
theorem dX9_push_12 : decode cX9_push 12 = .ok (.invokevirtual 127, 3) := by decide +kernel
theorem dX9_push_15 : decode cX9_push 15 = .ok (.aload_n 0, 1) := by decide +kernel
theorem dX9_push_16 : decode cX9_push 16 = .ok (.aload_n 0, 1) := by decide +kernel
theorem dX9_push_17 : decode cX9_push 17 = .ok (.getfield 19, 3) := by decide +kernel
theorem dX9_push_20 : decode cX9_push 20 = .ok (.bipush 6, 2) := by decide +kernel
theorem dX9_push_22 : decode cX9_push 22 = .ok (.iaload, 1) := by decide +kernel
theorem dX9_push_23 : decode cX9_push 23 = .ok (.aload_n 0, 1) := by decide +kernel
theorem dX9_push_24 : decode cX9_push 24 = .ok (.getfield 116, 3) := by decide +kernel
theorem dX9_push_27 : decode cX9_push 27 = .ok (.iload_n 1, 1) := by decide +kernel
theorem dX9_push_28 : decode cX9_push 28 = .ok (.invokevirtual 130, 3) := by decide +kernel
theorem dX9_push_31 : decode cX9_push 31 = .ok (.return_, 1) := by decide +kernel
set_option maxRecDepth 20000 in
theorem ggX9_step_X9_fetch : GoodIn wsX9_step wsX9_fetch := goodIn_r _ [6, 7, 8, 9, 10, 11, 5, 12, 1, 13, 14, 15, 16, 17, 18, 19, 20, 21, 22, 23, 24, 25, 26, 27, 28, 29, 30, 31, 32, 33, 34, 35, 36, 37, 38, 39, 40, 41, 42, 43, 44, 45, 46, 47, 48, 49, 50, 51, 52, 53, 54, 55, 56, 57, 58, 59, 60, 61, 62, 63, 64, 65, 66, 67, 68, 69, 70, 71, 72, 73, 74, 75, 76, 77, 78, 79, 80, 81] (by decide +kernel) (by decide +kernel)
set_option maxRecDepth 20000 in
theorem gX9_step_X9_fetch : GoodIn wsX9_step (wsV RX9 134 RX9 yX9_fetch wsX9_fetch) := goodIn_app (goodIn_of _ (by decide +kernel)) ggX9_step_X9_fetch
theorem dX9_step_0 : decode cX9_step 0 = .ok (.aload_n 0, 1) := by decide +kernel
theorem dX9_step_1 : decode cX9_step 1 = .ok (.invokevirtual 134, 3) := by decide +kernel
theorem dX9_step_4 : decode cX9_step 4 = .ok (.istore_n 1, 1) := by decide +kernel
theorem dX9_step_5 : decode cX9_step 5 = .ok (.aload_n 0, 1) := by decide +kernel
theorem dX9_step_6 : decode cX9_step 6 = .ok (.getfield 87, 3) := by decide +kernel
theorem dX9_step_9 : decode cX9_step 9 = .ok (.ifCond .le 4, 3) := by decide +kernel
theorem dX9_step_12 : decode cX9_step 12 = .ok (.return_, 1) := by decide +kernel
theorem dX9_step_13 : decode cX9_step 13 = .ok (.iload_n 1, 1) := by decide +kernel
theorem dX9_step_14 : decode cX9_step 14 = .ok (.sipush 4096, 3) := by decide +kernel
theorem dX9_step_17 : decode cX9_step 17 = .ok (.idiv, 1) := by decide +kernel
theorem dX9_step_18 : decode cX9_step 18 = .ok (.istore_n 2, 1) := by decide +kernel
theorem dX9_step_19 : decode cX9_step 19 = .ok (.iload_n 2, 1) := by decide +kernel
theorem dX9_step_20 : decode cX9_step 20 = .ok (.bipush 15, 2) := by decide +kernel
theorem dX9_step_22 : decode cX9_step 22 = .ok (.if_icmp .ne 12, 3) := by decide +kernel
theorem dX9_step_25 : decode cX9_step 25 = .ok (.aload_n 0, 1) := by decide +kernel
theorem dX9_step_26 : decode cX9_step 26 = .ok (.bipush 8, 2) := by decide +kernel
theorem dX9_step_28 : decode cX9_step 28 = .ok (.putfield 87, 3) := by decide +kernel
theorem dX9_step_31 : decode cX9_step 31 = .ok (.goto 38, 3) := by decide +kernel
theorem dX9_step_34 : decode cX9_step 34 = .ok (.iload_n 2, 1) := by decide +kernel
theorem dX9_step_35 : decode cX9_step 35 = .ok (.bipush 8, 2) := by decide +kernel
theorem dX9_step_37 : decode cX9_step 37 = .ok (.irem, 1) := by decide +kernel
theorem dX9_step_38 : decode cX9_step 38 = .ok (.ifCond .ne 11, 3) := by decide +kernel
theorem dX9_step_41 : decode cX9_step 41 = .ok (.aload_n 0, 1) := by decide +kernel
theorem dX9_step_42 : decode cX9_step 42 = .ok (.iload_n 1, 1) := by decide +kernel
theorem dX9_step_43 : decode cX9_step 43 = .ok (.invokevirtual 161, 3) := by decide +kernel
theorem dX9_step_46 : decode cX9_step 46 = .ok (.goto 23, 3) := by decide +kernel
theorem dX9_step_49 : decode cX9_step 49 = .ok (.iload_n 2, 1) := by decide +kernel
theorem dX9_step_50 : decode cX9_step 50 = .ok (.bipush 7, 2) := by decide +kernel
theorem dX9_step_52 : decode cX9_step 52 = .ok (.if_icmp .ne 11, 3) := by decide +kernel
theorem dX9_step_55 : decode cX9_step 55 = .ok (.aload_n 0, 1) := by decide +kernel
theorem dX9_step_56 : decode cX9_step 56 = .ok (.iload_n 1, 1) := by decide +kernel
theorem dX9_step_57 : decode cX9_step 57 = .ok (.invokevirtual 164, 3) := by decide +kernel
theorem dX9_step_60 : decode cX9_step 60 = .ok (.goto 9, 3) := by decide +kernel
theorem dX9_step_63 : decode cX9_step 63 = .ok (.aload_n 0, 1) := by decide +kernel
theorem dX9_step_64 : decode cX9_step 64 = .ok (.iload_n 1, 1) := by decide +kernel
theorem dX9_step_65 : decode cX9_step 65 = .ok (.iload_n 2, 1) := by decide +kernel
theorem dX9_step_66 : decode cX9_step 66 = .ok (.invokevirtual 167, 3) := by decide +kernel
theorem dX9_step_69 : decode cX9_step 69 = .ok (.aload_n 0, 1) := by decide +kernel
theorem dX9_step_70 : decode cX9_step 70 = .ok (.getfield 87, 3) := by decide +kernel
theorem dX9_step_73 : decode cX9_step 73 = .ok (.ifCond .ne 7, 3) := by decide +kernel
theorem dX9_step_76 : decode cX9_step 76 = .ok (.aload_n 0, 1) := by decide +kernel
theorem dX9_step_77 : decode cX9_step 77 = .ok (.invokevirtual 170, 3) := by decide +kernel
theorem dX9_step_80 : decode cX9_step 80 = .ok (.return_, 1) := by decide +kernel
set_option maxRecDepth 20000 in
theorem ggX9_trap_X9_wordAt : GoodIn wsX9_trap wsX9_wordAt := goodIn_r _ [10, 3, 11, 12, 13, 9, 14, 15, 16, 17, 18, 19, 20, 21, 22, 23, 24, 25, 26, 27, 28, 29, 30, 31, 32, 33, 34, 1, 35, 36, 37, 38, 39, 40, 41, 42, 43, 44, 45, 79, 80, 81, 82, 83, 84, 85, 86, 87, 88, 89, 90, 91, 92, 93, 94, 95, 96, 97, 98, 99, 100, 101, 102, 103, 104, 105, 106] (by decide +kernel) (by decide +kernel)
set_option maxRecDepth 20000 in
theorem gX9_trap_X9_wordAt : GoodIn wsX9_trap (wsV RX9 123 RX9 yX9_wordAt wsX9_wordAt) := goodIn_app (goodIn_of _ (by decide +kernel)) ggX9_trap_X9_wordAt
set_option maxRecDepth 20000 in
theorem ggX9_trap_X9_bit : GoodIn wsX9_trap wsX9_bit := goodIn_r _ [45] (by decide +kernel) (by decide +kernel)
set_option maxRecDepth 20000 in
theorem gX9_trap_X9_bit : GoodIn wsX9_trap (va_wsS RX9 52 yX9_bit wsX9_bit) := goodIn_app (goodIn_of _ (by decide +kernel)) ggX9_trap_X9_bit
set_option maxRecDepth 20000 in
theorem ggX9_trap_X9_settle : GoodIn wsX9_trap wsX9_settle := goodIn_r _ [49, 1, 4, 2, 50, 79, 80, 81, 82, 83, 84, 85, 86, 87, 88, 89, 90, 91, 92, 93, 94, 95, 96, 97, 98, 99, 100, 101, 102, 103, 104, 105, 106] (by decide +kernel) (by decide +kernel)
set_option maxRecDepth 20000 in
theorem gX9_trap_X9_settle : GoodIn wsX9_trap (wsV RX9 170 RX9 yX9_settle wsX9_settle) := goodIn_app (goodIn_of _ (by decide +kernel)) ggX9_trap_X9_settle
set_option maxRecDepth 20000 in
theorem ggX9_trap_X9_push : GoodIn wsX9_trap wsX9_push := goodIn_r _ [54, 2, 4, 55, 56, 57, 9, 58, 3, 59, 60, 61, 62, 63, 11, 12, 13, 14, 15, 16, 17, 18, 64, 65, 66, 67, 30, 29, 68, 39, 32, 33, 34, 1, 25, 26, 27, 28, 31, 35, 36, 37, 38, 24, 40, 41, 42, 43, 44, 45, 69, 70, 71, 72, 73, 74, 75, 76, 77, 78, 79, 80, 81, 82, 83, 84, 85, 86, 87, 88, 89, 90, 91, 92, 93, 94, 95, 96, 97, 98, 99, 100, 101, 102, 103, 104, 105, 106] (by decide +kernel) (by decide +kernel)
set_option maxRecDepth 20000 in
theorem gX9_trap_X9_push : GoodIn wsX9_trap (wsV RX9 210 RX9 yX9_push wsX9_push) := goodIn_app (goodIn_of _ (by decide +kernel)) ggX9_trap_X9_push
set_option maxRecDepth 20000 in
theorem ggX9_trap_X9_put : GoodIn wsX9_trap wsX9_put := goodIn_r _ [58, 3, 2, 59, 79, 80, 81, 82, 83, 84, 85, 86, 87, 88, 89, 90, 91, 92, 93, 94, 95, 96, 97, 98, 99, 100, 101, 102, 103, 104, 105, 106] (by decide +kernel) (by decide +kernel)
set_option maxRecDepth 20000 in
theorem gX9_trap_X9_put : GoodIn wsX9_trap (wsV RX9 127 RX9 yX9_put wsX9_put) := goodIn_app (goodIn_of _ (by decide +kernel)) ggX9_trap_X9_put
theorem dX9_trap_0 : decode cX9_trap 0 = .ok (.aload_n 0, 1) := by decide +kernel
theorem dX9_trap_1 : decode cX9_trap 1 = .ok (.getfield 84, 3) := by decide +kernel
theorem dX9_trap_4 : decode cX9_trap 4 = .ok (.istore_n 2, 1) := by decide +kernel
theorem dX9_trap_5 : decode cX9_trap 5 = .ok (.aload_n 0, 1) := by decide +kernel
theorem dX9_trap_6 : decode cX9_trap 6 = .ok (.getfield 19, 3) := by decide +kernel
theorem dX9_trap_9 : decode cX9_trap 9 = .ok (.bipush 7, 2) := by decide +kernel
theorem dX9_trap_11 : decode cX9_trap 11 = .ok (.iaload, 1) := by decide +kernel
theorem dX9_trap_12 : decode cX9_trap 12 = .ok (.istore_n 3, 1) := by decide +kernel
theorem dX9_trap_13 : decode cX9_trap 13 = .ok (.aload_n 0, 1) := by decide +kernel
theorem dX9_trap_14 : decode cX9_trap 14 = .ok (.iconst 0, 1) := by decide +kernel
theorem dX9_trap_15 : decode cX9_trap 15 = .ok (.putfield 87, 3) := by decide +kernel
theorem dX9_trap_18 : decode cX9_trap 18 = .ok (.aload_n 0, 1) := by decide +kernel
theorem dX9_trap_19 : decode cX9_trap 19 = .ok (.iload_n 1, 1) := by decide +kernel
theorem dX9_trap_20 : decode cX9_trap 20 = .ok (.iconst 0, 1) := by decide +kernel
theorem dX9_trap_21 : decode cX9_trap 21 = .ok (.invokevirtual 123, 3) := by decide +kernel
theorem dX9_trap_24 : decode cX9_trap 24 = .ok (.istore 4, 2) := by decide +kernel
theorem dX9_trap_26 : decode cX9_trap 26 = .ok (.aload_n 0, 1) := by decide +kernel
theorem dX9_trap_27 : decode cX9_trap 27 = .ok (.iload_n 1, 1) := by decide +kernel
theorem dX9_trap_28 : decode cX9_trap 28 = .ok (.iconst 2, 1) := by decide +kernel
theorem dX9_trap_29 : decode cX9_trap 29 = .ok (.iadd, 1) := by decide +kernel
theorem dX9_trap_30 : decode cX9_trap 30 = .ok (.iconst 0, 1) := by decide +kernel
theorem dX9_trap_31 : decode cX9_trap 31 = .ok (.invokevirtual 123, 3) := by decide +kernel
theorem dX9_trap_34 : decode cX9_trap 34 = .ok (.istore 5, 2) := by decide +kernel
theorem dX9_trap_36 : decode cX9_trap 36 = .ok (.aload_n 0, 1) := by decide +kernel
theorem dX9_trap_37 : decode cX9_trap 37 = .ok (.getfield 87, 3) := by decide +kernel
theorem dX9_trap_40 : decode cX9_trap 40 = .ok (.ifCond .ne 37, 3) := by decide +kernel
theorem dX9_trap_43 : decode cX9_trap 43 = .ok (.aload_n 0, 1) := by decide +kernel
theorem dX9_trap_44 : decode cX9_trap 44 = .ok (.iload 5, 2) := by decide +kernel
theorem dX9_trap_46 : decode cX9_trap 46 = .ok (.sipush 16623, 3) := by decide +kernel
theorem dX9_trap_49 : decode cX9_trap 49 = .ok (.iand, 1) := by decide +kernel
theorem dX9_trap_50 : decode cX9_trap 50 = .ok (.aload_n 0, 1) := by decide +kernel
theorem dX9_trap_51 : decode cX9_trap 51 = .ok (.getfield 116, 3) := by decide +kernel
theorem dX9_trap_54 : decode cX9_trap 54 = .ok (.iconst 1, 1) := by decide +kernel
theorem dX9_trap_55 : decode cX9_trap 55 = .ok (.if_icmp .ne 7, 3) := by decide +kernel
theorem dX9_trap_58 : decode cX9_trap 58 = .ok (.iconst 1, 1) := by decide +kernel
theorem dX9_trap_59 : decode cX9_trap 59 = .ok (.goto 4, 3) := by decide +kernel
theorem dX9_trap_62 : decode cX9_trap 62 = .ok (.iconst 0, 1) := by decide +kernel
theorem dX9_trap_63 : decode cX9_trap 63 = .ok (.sipush 4096, 3) := by decide +kernel
theorem dX9_trap_66 : decode cX9_trap 66 = .ok (.invokestatic 52, 3) := by decide +kernel
theorem dX9_trap_69 : decode cX9_trap 69 = .ok (.iadd, 1) := by decide +kernel
theorem dX9_trap_70 : decode cX9_trap 70 = .ok (.putfield 84, 3) := by decide +kernel
theorem dX9_trap_73 : decode cX9_trap 73 = .ok (.aload_n 0, 1) := by decide +kernel
theorem dX9_trap_74 : decode cX9_trap 74 = .ok (.invokevirtual 170, 3) := by decide +kernel
theorem dX9_trap_77 : decode cX9_trap 77 = .ok (.aload_n 0, 1) := by decide +kernel
theorem dX9_trap_78 : decode cX9_trap 78 = .ok (.iload_n 2, 1) := by decide +kernel
theorem dX9_trap_79 : decode cX9_trap 79 = .ok (.invokevirtual 210, 3) := by decide +kernel
theorem dX9_trap_82 : decode cX9_trap 82 = .ok (.aload_n 0, 1) := by decide +kernel
theorem dX9_trap_83 : decode cX9_trap 83 = .ok (.iload_n 3, 1) := by decide +kernel
theorem dX9_trap_84 : decode cX9_trap 84 = .ok (.invokevirtual 210, 3) := by decide +kernel
theorem dX9_trap_87 : decode cX9_trap 87 = .ok (.aload_n 0, 1) := by decide +kernel
theorem dX9_trap_88 : decode cX9_trap 88 = .ok (.bipush 7, 2) := by decide +kernel
theorem dX9_trap_90 : decode cX9_trap 90 = .ok (.iload 4, 2) := by decide +kernel
theorem dX9_trap_92 : decode cX9_trap 92 = .ok (.invokevirtual 127, 3) := by decide +kernel
theorem dX9_trap_95 : decode cX9_trap 95 = .ok (.aload_n 0, 1) := by decide +kernel
theorem dX9_trap_96 : decode cX9_trap 96 = .ok (.getfield 87, 3) := by decide +kernel
theorem dX9_trap_99 : decode cX9_trap 99 = .ok (.ifCond .le 8, 3) := by decide +kernel
theorem dX9_trap_102 : decode cX9_trap 102 = .ok (.aload_n 0, 1) := by decide +kernel
theorem dX9_trap_103 : decode cX9_trap 103 = .ok (.iconst 3, 1) := by decide +kernel
theorem dX9_trap_104 : decode cX9_trap 104 = .ok (.putfield 22, 3) := by decide +kernel
theorem dX9_trap_107 : decode cX9_trap 107 = .ok (.aload_n 0, 1) := by decide +kernel
theorem dX9_trap_108 : decode cX9_trap 108 = .ok (.iconst 0, 1) := by decide +kernel
theorem dX9_trap_109 : decode cX9_trap 109 = .ok (.putfield 87, 3) := by decide +kernel
theorem dX9_trap_112 : decode cX9_trap 112 = .ok (.aload_n 0, 1) := by decide +kernel
theorem dX9_trap_113 : decode cX9_trap 113 = .ok (.invokevirtual 170, 3) := by decide +kernel
theorem dX9_trap_116 : decode cX9_trap 116 = .ok (.return_, 1) := by decide +kernel
theorem dX9_goOn_0 : decode cX9_goOn 0 = .ok (.iconst 0, 1) := by decide +kernel
theorem dX9_goOn_1 : decode cX9_goOn 1 = .ok (.istore_n 1, 1) := by decide +kernel
theorem dX9_goOn_2 : decode cX9_goOn 2 = .ok (.iload_n 1, 1) := by decide +kernel
theorem dX9_goOn_3 : decode cX9_goOn 3 = .ok (.iconst 3, 1) := by decide +kernel
theorem dX9_goOn_4 : decode cX9_goOn 4 = .ok (.if_icmp .ge 42, 3) := by decide +kernel
theorem dX9_goOn_7 : decode cX9_goOn 7 = .ok (.aload_n 0, 1) := by decide +kernel
theorem dX9_goOn_8 : decode cX9_goOn 8 = .ok (.getfield 39, 3) := by decide +kernel
theorem dX9_goOn_11 : decode cX9_goOn 11 = .ok (.iload_n 1, 1) := by decide +kernel
theorem dX9_goOn_12 : decode cX9_goOn 12 = .ok (.iaload, 1) := by decide +kernel
theorem dX9_goOn_13 : decode cX9_goOn 13 = .ok (.ifCond .le 27, 3) := by decide +kernel
theorem dX9_goOn_16 : decode cX9_goOn 16 = .ok (.aload_n 0, 1) := by decide +kernel
theorem dX9_goOn_17 : decode cX9_goOn 17 = .ok (.getfield 39, 3) := by decide +kernel
theorem dX9_goOn_20 : decode cX9_goOn 20 = .ok (.iload_n 1, 1) := by decide +kernel
theorem dX9_goOn_21 : decode cX9_goOn 21 = .ok (.dup2, 1) := by decide +kernel
theorem dX9_goOn_22 : decode cX9_goOn 22 = .ok (.iaload, 1) := by decide +kernel
theorem dX9_goOn_23 : decode cX9_goOn 23 = .ok (.iconst 1, 1) := by decide +kernel
theorem dX9_goOn_24 : decode cX9_goOn 24 = .ok (.isub, 1) := by decide +kernel
theorem dX9_goOn_25 : decode cX9_goOn 25 = .ok (.iastore, 1) := by decide +kernel
theorem dX9_goOn_26 : decode cX9_goOn 26 = .ok (.aload_n 0, 1) := by decide +kernel
theorem dX9_goOn_27 : decode cX9_goOn 27 = .ok (.getfield 39, 3) := by decide +kernel
theorem dX9_goOn_30 : decode cX9_goOn 30 = .ok (.iload_n 1, 1) := by decide +kernel
theorem dX9_goOn_31 : decode cX9_goOn 31 = .ok (.iaload, 1) := by decide +kernel
theorem dX9_goOn_32 : decode cX9_goOn 32 = .ok (.ifCond .ne 8, 3) := by decide +kernel
theorem dX9_goOn_35 : decode cX9_goOn 35 = .ok (.aload_n 0, 1) := by decide +kernel
theorem dX9_goOn_36 : decode cX9_goOn 36 = .ok (.iload_n 1, 1) := by decide +kernel
theorem dX9_goOn_37 : decode cX9_goOn 37 = .ok (.invokevirtual 245, 3) := by decide +kernel
theorem dX9_goOn_40 : decode cX9_goOn 40 = .ok (.iinc 1 1, 3) := by decide +kernel
theorem dX9_goOn_43 : decode cX9_goOn 43 = .ok (.goto (-41), 3) := by decide +kernel
theorem dX9_goOn_46 : decode cX9_goOn 46 = .ok (.iconst (-1), 1) := by decide +kernel
theorem dX9_goOn_47 : decode cX9_goOn 47 = .ok (.istore_n 1, 1) := by decide +kernel
theorem dX9_goOn_48 : decode cX9_goOn 48 = .ok (.iconst 2, 1) := by decide +kernel
theorem dX9_goOn_49 : decode cX9_goOn 49 = .ok (.istore_n 2, 1) := by decide +kernel
theorem dX9_goOn_50 : decode cX9_goOn 50 = .ok (.iload_n 2, 1) := by decide +kernel
theorem dX9_goOn_51 : decode cX9_goOn 51 = .ok (.ifCond .lt 110, 3) := by decide +kernel
theorem dX9_goOn_54 : decode cX9_goOn 54 = .ok (.aload_n 0, 1) := by decide +kernel
theorem dX9_goOn_55 : decode cX9_goOn 55 = .ok (.getfield 26, 3) := by decide +kernel
theorem dX9_goOn_58 : decode cX9_goOn 58 = .ok (.iload_n 2, 1) := by decide +kernel
theorem dX9_goOn_59 : decode cX9_goOn 59 = .ok (.baload, 1) := by decide +kernel
theorem dX9_goOn_60 : decode cX9_goOn 60 = .ok (.ifCond .eq 16, 3) := by decide +kernel
theorem dX9_goOn_63 : decode cX9_goOn 63 = .ok (.aload_n 0, 1) := by decide +kernel
theorem dX9_goOn_64 : decode cX9_goOn 64 = .ok (.getfield 30, 3) := by decide +kernel
theorem dX9_goOn_67 : decode cX9_goOn 67 = .ok (.iload_n 2, 1) := by decide +kernel
theorem dX9_goOn_68 : decode cX9_goOn 68 = .ok (.baload, 1) := by decide +kernel
theorem dX9_goOn_69 : decode cX9_goOn 69 = .ok (.ifCond .eq 7, 3) := by decide +kernel
theorem dX9_goOn_72 : decode cX9_goOn 72 = .ok (.iconst 1, 1) := by decide +kernel
theorem dX9_goOn_73 : decode cX9_goOn 73 = .ok (.goto 4, 3) := by decide +kernel
theorem dX9_goOn_76 : decode cX9_goOn 76 = .ok (.iconst 0, 1) := by decide +kernel
theorem dX9_goOn_77 : decode cX9_goOn 77 = .ok (.istore_n 3, 1) := by decide +kernel
theorem dX9_goOn_78 : decode cX9_goOn 78 = .ok (.aload_n 0, 1) := by decide +kernel
theorem dX9_goOn_79 : decode cX9_goOn 79 = .ok (.getfield 36, 3) := by decide +kernel
theorem dX9_goOn_82 : decode cX9_goOn 82 = .ok (.iload_n 2, 1) := by decide +kernel
theorem dX9_goOn_83 : decode cX9_goOn 83 = .ok (.iload_n 3, 1) := by decide +kernel
theorem dX9_goOn_84 : decode cX9_goOn 84 = .ok (.ifCond .eq 25, 3) := by decide +kernel
theorem dX9_goOn_87 : decode cX9_goOn 87 = .ok (.aload_n 0, 1) := by decide +kernel
theorem dX9_goOn_88 : decode cX9_goOn 88 = .ok (.getfield 36, 3) := by decide +kernel
theorem dX9_goOn_91 : decode cX9_goOn 91 = .ok (.iload_n 2, 1) := by decide +kernel
theorem dX9_goOn_92 : decode cX9_goOn 92 = .ok (.baload, 1) := by decide +kernel
theorem dX9_goOn_93 : decode cX9_goOn 93 = .ok (.ifCond .ne 12, 3) := by decide +kernel
theorem dX9_goOn_96 : decode cX9_goOn 96 = .ok (.aload_n 0, 1) := by decide +kernel
theorem dX9_goOn_97 : decode cX9_goOn 97 = .ok (.getfield 33, 3) := by decide +kernel
theorem dX9_goOn_100 : decode cX9_goOn 100 = .ok (.iload_n 2, 1) := by decide +kernel
theorem dX9_goOn_101 : decode cX9_goOn 101 = .ok (.baload, 1) := by decide +kernel
theorem dX9_goOn_102 : decode cX9_goOn 102 = .ok (.ifCond .ne 7, 3) := by decide +kernel
theorem dX9_goOn_105 : decode cX9_goOn 105 = .ok (.iconst 1, 1) := by decide +kernel
theorem dX9_goOn_106 : decode cX9_goOn 106 = .ok (.goto 4, 3) := by decide +kernel
theorem dX9_goOn_109 : decode cX9_goOn 109 = .ok (.iconst 0, 1) := by decide +kernel
theorem dX9_goOn_110 : decode cX9_goOn 110 = .ok (.bastore, 1) := by decide +kernel
theorem dX9_goOn_111 : decode cX9_goOn 111 = .ok (.aload_n 0, 1) := by decide +kernel
theorem dX9_goOn_112 : decode cX9_goOn 112 = .ok (.getfield 33, 3) := by decide +kernel
theorem dX9_goOn_115 : decode cX9_goOn 115 = .ok (.iload_n 2, 1) := by decide +kernel
theorem dX9_goOn_116 : decode cX9_goOn 116 = .ok (.iload_n 3, 1) := by decide +kernel
theorem dX9_goOn_117 : decode cX9_goOn 117 = .ok (.bastore, 1) := by decide +kernel
theorem dX9_goOn_118 : decode cX9_goOn 118 = .ok (.iload_n 2, 1) := by decide +kernel
theorem dX9_goOn_119 : decode cX9_goOn 119 = .ok (.ifCond .ne 7, 3) := by decide +kernel
theorem dX9_goOn_122 : decode cX9_goOn 122 = .ok (.iconst 5, 1) := by decide +kernel
theorem dX9_goOn_123 : decode cX9_goOn 123 = .ok (.goto 4, 3) := by decide +kernel
theorem dX9_goOn_126 : decode cX9_goOn 126 = .ok (.iconst 4, 1) := by decide +kernel
theorem dX9_goOn_127 : decode cX9_goOn 127 = .ok (.istore 4, 2) := by decide +kernel
theorem dX9_goOn_129 : decode cX9_goOn 129 = .ok (.aload_n 0, 1) := by decide +kernel
theorem dX9_goOn_130 : decode cX9_goOn 130 = .ok (.getfield 36, 3) := by decide +kernel
theorem dX9_goOn_133 : decode cX9_goOn 133 = .ok (.iload_n 2, 1) := by decide +kernel
theorem dX9_goOn_134 : decode cX9_goOn 134 = .ok (.baload, 1) := by decide +kernel
theorem dX9_goOn_135 : decode cX9_goOn 135 = .ok (.ifCond .eq 20, 3) := by decide +kernel
theorem dX9_goOn_138 : decode cX9_goOn 138 = .ok (.iload 4, 2) := by decide +kernel
theorem dX9_goOn_140 : decode cX9_goOn 140 = .ok (.aload_n 0, 1) := by decide +kernel
theorem dX9_goOn_141 : decode cX9_goOn 141 = .ok (.getfield 84, 3) := by decide +kernel
theorem dX9_goOn_144 : decode cX9_goOn 144 = .ok (.bipush 32, 2) := by decide +kernel
theorem dX9_goOn_146 : decode cX9_goOn 146 = .ok (.idiv, 1) := by decide +kernel
theorem dX9_goOn_147 : decode cX9_goOn 147 = .ok (.bipush 8, 2) := by decide +kernel
theorem dX9_goOn_149 : decode cX9_goOn 149 = .ok (.irem, 1) := by decide +kernel
theorem dX9_goOn_150 : decode cX9_goOn 150 = .ok (.if_icmp .le 5, 3) := by decide +kernel
theorem dX9_goOn_153 : decode cX9_goOn 153 = .ok (.iload_n 2, 1) := by decide +kernel
theorem dX9_goOn_154 : decode cX9_goOn 154 = .ok (.istore_n 1, 1) := by decide +kernel
theorem dX9_goOn_155 : decode cX9_goOn 155 = .ok (.iinc 2 (-1), 3) := by decide +kernel
theorem dX9_goOn_158 : decode cX9_goOn 158 = .ok (.goto (-108), 3) := by decide +kernel
theorem dX9_goOn_161 : decode cX9_goOn 161 = .ok (.iload_n 1, 1) := by decide +kernel
theorem dX9_goOn_162 : decode cX9_goOn 162 = .ok (.ifCond .ge 4, 3) := by decide +kernel
theorem dX9_goOn_165 : decode cX9_goOn 165 = .ok (.return_, 1) := by decide +kernel
theorem dX9_goOn_166 : decode cX9_goOn 166 = .ok (.aload_n 0, 1) := by decide +kernel
theorem dX9_goOn_167 : decode cX9_goOn 167 = .ok (.getfield 36, 3) := by decide +kernel
theorem dX9_goOn_170 : decode cX9_goOn 170 = .ok (.iload_n 1, 1) := by decide +kernel
theorem dX9_goOn_171 : decode cX9_goOn 171 = .ok (.iconst 0, 1) := by decide +kernel
theorem dX9_goOn_172 : decode cX9_goOn 172 = .ok (.bastore, 1) := by decide +kernel
theorem dX9_goOn_173 : decode cX9_goOn 173 = .ok (.aload_n 0, 1) := by decide +kernel
theorem dX9_goOn_174 : decode cX9_goOn 174 = .ok (.iconst 0, 1) := by decide +kernel
theorem dX9_goOn_175 : decode cX9_goOn 175 = .ok (.putfield 22, 3) := by decide +kernel
theorem dX9_goOn_178 : decode cX9_goOn 178 = .ok (.aload_n 0, 1) := by decide +kernel
theorem dX9_goOn_179 : decode cX9_goOn 179 = .ok (.iload_n 1, 1) := by decide +kernel
theorem dX9_goOn_180 : decode cX9_goOn 180 = .ok (.ifCond .ne 9, 3) := by decide +kernel
theorem dX9_goOn_183 : decode cX9_goOn 183 = .ok (.sipush 144, 3) := by decide +kernel
theorem dX9_goOn_186 : decode cX9_goOn 186 = .ok (.goto 15, 3) := by decide +kernel
theorem dX9_goOn_189 : decode cX9_goOn 189 = .ok (.iload_n 1, 1) := by decide +kernel
theorem dX9_goOn_190 : decode cX9_goOn 190 = .ok (.iconst 1, 1) := by decide +kernel
theorem dX9_goOn_191 : decode cX9_goOn 191 = .ok (.if_icmp .ne 8, 3) := by decide +kernel
theorem dX9_goOn_194 : decode cX9_goOn 194 = .ok (.bipush 48, 2) := by decide +kernel
theorem dX9_goOn_196 : decode cX9_goOn 196 = .ok (.goto 5, 3) := by decide +kernel
theorem dX9_goOn_199 : decode cX9_goOn 199 = .ok (.bipush 52, 2) := by decide +kernel
theorem dX9_goOn_201 : decode cX9_goOn 201 = .ok (.invokevirtual 248, 3) := by decide +kernel
theorem dX9_goOn_204 : decode cX9_goOn 204 = .ok (.return_, 1) := by decide +kernel
theorem dX9_isWord_0 : decode cX9_isWord 0 = .ok (.iload_n 0, 1) := by decide +kernel
theorem dX9_isWord_1 : decode cX9_isWord 1 = .ok (.ifCond .lt 13, 3) := by decide +kernel
theorem dX9_isWord_4 : decode cX9_isWord 4 = .ok (.iload_n 0, 1) := by decide +kernel
theorem dX9_isWord_5 : decode cX9_isWord 5 = .ok (.ldc 51, 2) := by decide +kernel
theorem dX9_isWord_7 : decode cX9_isWord 7 = .ok (.if_icmp .ge 7, 3) := by decide +kernel
theorem dX9_isWord_10 : decode cX9_isWord 10 = .ok (.iconst 1, 1) := by decide +kernel
theorem dX9_isWord_11 : decode cX9_isWord 11 = .ok (.goto 4, 3) := by decide +kernel
theorem dX9_isWord_14 : decode cX9_isWord 14 = .ok (.iconst 0, 1) := by decide +kernel
theorem dX9_isWord_15 : decode cX9_isWord 15 = .ok (.ireturn, 1) := by decide +kernel
theorem dX9_cell_0 : decode cX9_cell 0 = .ok (.iload_n 0, 1) := by decide +kernel
theorem dX9_cell_1 : decode cX9_cell 1 = .ok (.ifCond .lt 20, 3) := by decide +kernel
theorem dX9_cell_4 : decode cX9_cell 4 = .ok (.iload_n 0, 1) := by decide +kernel
theorem dX9_cell_5 : decode cX9_cell 5 = .ok (.sipush 1024, 3) := by decide +kernel
theorem dX9_cell_8 : decode cX9_cell 8 = .ok (.if_icmp .ge 13, 3) := by decide +kernel
theorem dX9_cell_11 : decode cX9_cell 11 = .ok (.iload_n 0, 1) := by decide +kernel
theorem dX9_cell_12 : decode cX9_cell 12 = .ok (.iconst 2, 1) := by decide +kernel
theorem dX9_cell_13 : decode cX9_cell 13 = .ok (.irem, 1) := by decide +kernel
theorem dX9_cell_14 : decode cX9_cell 14 = .ok (.ifCond .ne 7, 3) := by decide +kernel
theorem dX9_cell_17 : decode cX9_cell 17 = .ok (.iconst 1, 1) := by decide +kernel
theorem dX9_cell_18 : decode cX9_cell 18 = .ok (.goto 4, 3) := by decide +kernel
theorem dX9_cell_21 : decode cX9_cell 21 = .ok (.iconst 0, 1) := by decide +kernel
theorem dX9_cell_22 : decode cX9_cell 22 = .ok (.ireturn, 1) := by decide +kernel
set_option maxRecDepth 20000 in
theorem ggX9_deposit_X9_cell : GoodIn wsX9_deposit wsX9_cell := goodIn_r _ [6] (by decide +kernel) (by decide +kernel)
set_option maxRecDepth 20000 in
theorem gX9_deposit_X9_cell : GoodIn wsX9_deposit (va_wsS RX9 257 yX9_cell wsX9_cell) := goodIn_app (goodIn_of _ (by decide +kernel)) ggX9_deposit_X9_cell
set_option maxRecDepth 20000 in
theorem ggX9_deposit_X9_isWord : GoodIn wsX9_deposit wsX9_isWord := goodIn_r _ [9, 10] (by decide +kernel) (by decide +kernel)
set_option maxRecDepth 20000 in
theorem gX9_deposit_X9_isWord : GoodIn wsX9_deposit (va_wsS RX9 260 yX9_isWord wsX9_isWord) := goodIn_app (goodIn_of _ (by decide +kernel)) ggX9_deposit_X9_isWord
theorem dX9_deposit_0 : decode cX9_deposit 0 = .ok (.aload_n 0, 1) := by decide +kernel
theorem dX9_deposit_1 : decode cX9_deposit 1 = .ok (.iload_n 1, 1) := by decide +kernel
theorem dX9_deposit_2 : decode cX9_deposit 2 = .ok (.invokestatic 257, 3) := by decide +kernel
theorem dX9_deposit_5 : decode cX9_deposit 5 = .ok (.ifCond .eq 14, 3) := by decide +kernel
theorem dX9_deposit_8 : decode cX9_deposit 8 = .ok (.iload_n 2, 1) := by decide +kernel
theorem dX9_deposit_9 : decode cX9_deposit 9 = .ok (.invokestatic 260, 3) := by decide +kernel
theorem dX9_deposit_12 : decode cX9_deposit 12 = .ok (.ifCond .eq 7, 3) := by decide +kernel
theorem dX9_deposit_15 : decode cX9_deposit 15 = .ok (.iconst 0, 1) := by decide +kernel
theorem dX9_deposit_16 : decode cX9_deposit 16 = .ok (.goto 4, 3) := by decide +kernel
theorem dX9_deposit_19 : decode cX9_deposit 19 = .ok (.iconst 1, 1) := by decide +kernel
theorem dX9_deposit_20 : decode cX9_deposit 20 = .ok (.putfield 48, 3) := by decide +kernel
theorem dX9_deposit_23 : decode cX9_deposit 23 = .ok (.aload_n 0, 1) := by decide +kernel
theorem dX9_deposit_24 : decode cX9_deposit 24 = .ok (.getfield 48, 3) := by decide +kernel
theorem dX9_deposit_27 : decode cX9_deposit 27 = .ok (.ifCond .ne 12, 3) := by decide +kernel
theorem dX9_deposit_30 : decode cX9_deposit 30 = .ok (.aload_n 0, 1) := by decide +kernel
theorem dX9_deposit_31 : decode cX9_deposit 31 = .ok (.getfield 7, 3) := by decide +kernel
theorem dX9_deposit_34 : decode cX9_deposit 34 = .ok (.iload_n 1, 1) := by decide +kernel
theorem dX9_deposit_35 : decode cX9_deposit 35 = .ok (.iconst 2, 1) := by decide +kernel
theorem dX9_deposit_36 : decode cX9_deposit 36 = .ok (.idiv, 1) := by decide +kernel
theorem dX9_deposit_37 : decode cX9_deposit 37 = .ok (.iload_n 2, 1) := by decide +kernel
theorem dX9_deposit_38 : decode cX9_deposit 38 = .ok (.iastore, 1) := by decide +kernel
theorem dX9_deposit_39 : decode cX9_deposit 39 = .ok (.return_, 1) := by decide +kernel
set_option maxRecDepth 20000 in
theorem ggX9_set_X9_out : GoodIn wsX9_set wsX9_out := goodIn_r _ [8] (by decide +kernel) (by decide +kernel)
set_option maxRecDepth 20000 in
theorem gX9_set_X9_out : GoodIn wsX9_set (va_wsS RX9 266 yX9_out wsX9_out) := goodIn_app (goodIn_of _ (by decide +kernel)) ggX9_set_X9_out
set_option maxRecDepth 20000 in
theorem ggX9_set_X9_isWord : GoodIn wsX9_set wsX9_isWord := goodIn_r _ [11, 12] (by decide +kernel) (by decide +kernel)
set_option maxRecDepth 20000 in
theorem gX9_set_X9_isWord : GoodIn wsX9_set (va_wsS RX9 260 yX9_isWord wsX9_isWord) := goodIn_app (goodIn_of _ (by decide +kernel)) ggX9_set_X9_isWord
theorem dX9_set_0 : decode cX9_set 0 = .ok (.aload_n 0, 1) := by decide +kernel
theorem dX9_set_1 : decode cX9_set 1 = .ok (.iload_n 1, 1) := by decide +kernel
theorem dX9_set_2 : decode cX9_set 2 = .ok (.bipush 8, 2) := by decide +kernel
theorem dX9_set_4 : decode cX9_set 4 = .ok (.invokestatic 266, 3) := by decide +kernel
theorem dX9_set_7 : decode cX9_set 7 = .ok (.ifCond .ne 10, 3) := by decide +kernel
theorem dX9_set_10 : decode cX9_set 10 = .ok (.iload_n 2, 1) := by decide +kernel
theorem dX9_set_11 : decode cX9_set 11 = .ok (.invokestatic 260, 3) := by decide +kernel
theorem dX9_set_14 : decode cX9_set 14 = .ok (.ifCond .ne 7, 3) := by decide +kernel
theorem dX9_set_17 : decode cX9_set 17 = .ok (.iconst 1, 1) := by decide +kernel
theorem dX9_set_18 : decode cX9_set 18 = .ok (.goto 4, 3) := by decide +kernel
theorem dX9_set_21 : decode cX9_set 21 = .ok (.iconst 0, 1) := by decide +kernel
theorem dX9_set_22 : decode cX9_set 22 = .ok (.putfield 48, 3) := by decide +kernel
theorem dX9_set_25 : decode cX9_set 25 = .ok (.aload_n 0, 1) := by decide +kernel
theorem dX9_set_26 : decode cX9_set 26 = .ok (.getfield 48, 3) := by decide +kernel
theorem dX9_set_29 : decode cX9_set 29 = .ok (.ifCond .le 4, 3) := by decide +kernel
theorem dX9_set_32 : decode cX9_set 32 = .ok (.return_, 1) := by decide +kernel
theorem dX9_set_33 : decode cX9_set 33 = .ok (.iload_n 1, 1) := by decide +kernel
theorem dX9_set_34 : decode cX9_set 34 = .ok (.bipush 6, 2) := by decide +kernel
theorem dX9_set_36 : decode cX9_set 36 = .ok (.if_icmp .ne 19, 3) := by decide +kernel
theorem dX9_set_39 : decode cX9_set 39 = .ok (.aload_n 0, 1) := by decide +kernel
theorem dX9_set_40 : decode cX9_set 40 = .ok (.getfield 116, 3) := by decide +kernel
theorem dX9_set_43 : decode cX9_set 43 = .ok (.iconst 1, 1) := by decide +kernel
theorem dX9_set_44 : decode cX9_set 44 = .ok (.if_icmp .ne 11, 3) := by decide +kernel
theorem dX9_set_47 : decode cX9_set 47 = .ok (.aload_n 0, 1) := by decide +kernel
theorem dX9_set_48 : decode cX9_set 48 = .ok (.iload_n 2, 1) := by decide +kernel
theorem dX9_set_49 : decode cX9_set 49 = .ok (.putfield 119, 3) := by decide +kernel
theorem dX9_set_52 : decode cX9_set 52 = .ok (.goto 10, 3) := by decide +kernel
theorem dX9_set_55 : decode cX9_set 55 = .ok (.aload_n 0, 1) := by decide +kernel
theorem dX9_set_56 : decode cX9_set 56 = .ok (.getfield 19, 3) := by decide +kernel
theorem dX9_set_59 : decode cX9_set 59 = .ok (.iload_n 1, 1) := by decide +kernel
theorem dX9_set_60 : decode cX9_set 60 = .ok (.iload_n 2, 1) := by decide +kernel
theorem dX9_set_61 : decode cX9_set 61 = .ok (.iastore, 1) := by decide +kernel
theorem dX9_set_62 : decode cX9_set 62 = .ok (.return_, 1) := by decide +kernel
set_option maxRecDepth 20000 in
theorem ggX9_start_X9_isWord : GoodIn wsX9_start wsX9_isWord := goodIn_r _ [8, 9] (by decide +kernel) (by decide +kernel)
set_option maxRecDepth 20000 in
theorem gX9_start_X9_isWord : GoodIn wsX9_start (va_wsS RX9 260 yX9_isWord wsX9_isWord) := goodIn_app (goodIn_of _ (by decide +kernel)) ggX9_start_X9_isWord
set_option maxRecDepth 20000 in
theorem ggX9_start_X9_settle : GoodIn wsX9_start wsX9_settle := goodIn_r _ [13, 2, 14, 3, 15, 16, 17, 18, 19, 20, 21, 22, 23, 24, 25, 26, 27, 28, 29, 30, 31, 32, 33, 34, 35, 36, 37, 38, 39, 40, 41, 42, 43] (by decide +kernel) (by decide +kernel)
set_option maxRecDepth 20000 in
theorem gX9_start_X9_settle : GoodIn wsX9_start (wsV RX9 170 RX9 yX9_settle wsX9_settle) := goodIn_app (goodIn_of _ (by decide +kernel)) ggX9_start_X9_settle
theorem dX9_start_0 : decode cX9_start 0 = .ok (.aload_n 0, 1) := by decide +kernel
theorem dX9_start_1 : decode cX9_start 1 = .ok (.iload_n 1, 1) := by decide +kernel
theorem dX9_start_2 : decode cX9_start 2 = .ok (.invokestatic 260, 3) := by decide +kernel
theorem dX9_start_5 : decode cX9_start 5 = .ok (.ifCond .eq 7, 3) := by decide +kernel
theorem dX9_start_8 : decode cX9_start 8 = .ok (.iconst 0, 1) := by decide +kernel
theorem dX9_start_9 : decode cX9_start 9 = .ok (.goto 4, 3) := by decide +kernel
theorem dX9_start_12 : decode cX9_start 12 = .ok (.iconst 1, 1) := by decide +kernel
theorem dX9_start_13 : decode cX9_start 13 = .ok (.putfield 48, 3) := by decide +kernel
theorem dX9_start_16 : decode cX9_start 16 = .ok (.aload_n 0, 1) := by decide +kernel
theorem dX9_start_17 : decode cX9_start 17 = .ok (.getfield 48, 3) := by decide +kernel
theorem dX9_start_20 : decode cX9_start 20 = .ok (.ifCond .le 4, 3) := by decide +kernel
theorem dX9_start_23 : decode cX9_start 23 = .ok (.return_, 1) := by decide +kernel
theorem dX9_start_24 : decode cX9_start 24 = .ok (.aload_n 0, 1) := by decide +kernel
theorem dX9_start_25 : decode cX9_start 25 = .ok (.sipush 224, 3) := by decide +kernel
theorem dX9_start_28 : decode cX9_start 28 = .ok (.putfield 84, 3) := by decide +kernel
theorem dX9_start_31 : decode cX9_start 31 = .ok (.aload_n 0, 1) := by decide +kernel
theorem dX9_start_32 : decode cX9_start 32 = .ok (.invokevirtual 170, 3) := by decide +kernel
theorem dX9_start_35 : decode cX9_start 35 = .ok (.aload_n 0, 1) := by decide +kernel
theorem dX9_start_36 : decode cX9_start 36 = .ok (.getfield 19, 3) := by decide +kernel
theorem dX9_start_39 : decode cX9_start 39 = .ok (.bipush 7, 2) := by decide +kernel
theorem dX9_start_41 : decode cX9_start 41 = .ok (.iload_n 1, 1) := by decide +kernel
theorem dX9_start_42 : decode cX9_start 42 = .ok (.iastore, 1) := by decide +kernel
theorem dX9_start_43 : decode cX9_start 43 = .ok (.aload_n 0, 1) := by decide +kernel
theorem dX9_start_44 : decode cX9_start 44 = .ok (.iconst 0, 1) := by decide +kernel
theorem dX9_start_45 : decode cX9_start 45 = .ok (.putfield 22, 3) := by decide +kernel
theorem dX9_start_48 : decode cX9_start 48 = .ok (.return_, 1) := by decide +kernel
set_option maxRecDepth 20000 in
theorem ggX9_run_X9_step : GoodIn wsX9_run wsX9_step := goodIn_r _ [8, 3, 9, 10, 11, 7, 12, 13, 14, 15, 16, 17, 18, 19, 20, 21, 22, 23, 24, 25, 26, 27, 28, 29, 30, 31, 32, 33, 34, 35, 36, 37, 38, 39, 40, 41, 42, 43, 44, 45, 46, 47, 48, 49, 50, 51, 52, 53, 54, 55, 56, 57, 58, 59, 98, 99, 100, 101, 102, 103, 104, 105, 106, 107, 108, 109, 110, 111, 112, 113, 114, 115, 116, 117, 118, 119, 120, 121, 122, 123, 124, 125] (by decide +kernel) (by decide +kernel)
set_option maxRecDepth 20000 in
theorem gX9_run_X9_step : GoodIn wsX9_run (wsV RX9 270 RX9 yX9_step wsX9_step) := goodIn_app (goodIn_of _ (by decide +kernel)) ggX9_run_X9_step
set_option maxRecDepth 20000 in
theorem ggX9_run_X9_trap : GoodIn wsX9_run wsX9_trap := goodIn_r _ [91, 43, 13, 3, 14, 1, 15, 16, 17, 7, 18, 19, 20, 21, 22, 23, 24, 25, 26, 27, 28, 29, 30, 31, 32, 33, 34, 35, 36, 37, 38, 39, 40, 41, 42, 44, 45, 46, 47, 48, 49, 50, 51, 52, 53, 54, 84, 85, 86, 87, 79, 80, 81, 82, 83, 55, 56, 57, 58, 59, 75, 76, 77, 78, 60, 61, 62, 63, 64, 65, 66, 67, 68, 69, 70, 71, 72, 73, 74, 98, 99, 100, 101, 102, 103, 104, 105, 106, 107, 108, 109, 110, 111, 112, 113, 114, 115, 116, 117, 118, 119, 120, 121, 122, 123, 124, 125] (by decide +kernel) (by decide +kernel)
set_option maxRecDepth 20000 in
theorem gX9_run_X9_trap : GoodIn wsX9_run (wsV RX9 248 RX9 yX9_trap wsX9_trap) := goodIn_app (goodIn_of _ (by decide +kernel)) ggX9_run_X9_trap
set_option maxRecDepth 20000 in
theorem ggX9_run_X9_goOn : GoodIn wsX9_run wsX9_goOn := goodIn_r _ [95, 70, 32, 48, 96, 97, 43, 1, 98, 99, 100, 101, 102, 103, 104, 105, 106, 107, 108, 109, 110, 111, 112, 113, 114, 115, 116, 117, 118, 119, 120, 121, 122, 123, 124, 125] (by decide +kernel) (by decide +kernel)
set_option maxRecDepth 20000 in
theorem gX9_run_X9_goOn : GoodIn wsX9_run (wsV RX9 273 RX9 yX9_goOn wsX9_goOn) := goodIn_app (goodIn_of _ (by decide +kernel)) ggX9_run_X9_goOn
theorem dX9_run_0 : decode cX9_run 0 = .ok (.aload_n 0, 1) := by decide +kernel
theorem dX9_run_1 : decode cX9_run 1 = .ok (.iload_n 1, 1) := by decide +kernel
theorem dX9_run_2 : decode cX9_run 2 = .ok (.iconst 1, 1) := by decide +kernel
theorem dX9_run_3 : decode cX9_run 3 = .ok (.if_icmp .lt 9, 3) := by decide +kernel
theorem dX9_run_6 : decode cX9_run 6 = .ok (.iload_n 1, 1) := by decide +kernel
theorem dX9_run_7 : decode cX9_run 7 = .ok (.bipush 40, 2) := by decide +kernel
theorem dX9_run_9 : decode cX9_run 9 = .ok (.if_icmp .le 7, 3) := by decide +kernel
theorem dX9_run_12 : decode cX9_run 12 = .ok (.iconst 1, 1) := by decide +kernel
theorem dX9_run_13 : decode cX9_run 13 = .ok (.goto 16, 3) := by decide +kernel
theorem dX9_run_16 : decode cX9_run 16 = .ok (.aload_n 0, 1) := by decide +kernel
theorem dX9_run_17 : decode cX9_run 17 = .ok (.getfield 22, 3) := by decide +kernel
theorem dX9_run_20 : decode cX9_run 20 = .ok (.iconst 1, 1) := by decide +kernel
theorem dX9_run_21 : decode cX9_run 21 = .ok (.if_icmp .le 7, 3) := by decide +kernel
theorem dX9_run_24 : decode cX9_run 24 = .ok (.iconst 2, 1) := by decide +kernel
theorem dX9_run_25 : decode cX9_run 25 = .ok (.goto 4, 3) := by decide +kernel
theorem dX9_run_28 : decode cX9_run 28 = .ok (.iconst 0, 1) := by decide +kernel
theorem dX9_run_29 : decode cX9_run 29 = .ok (.putfield 48, 3) := by decide +kernel
theorem dX9_run_32 : decode cX9_run 32 = .ok (.iconst 0, 1) := by decide +kernel
theorem dX9_run_33 : decode cX9_run 33 = .ok (.istore_n 2, 1) := by decide +kernel
theorem dX9_run_34 : decode cX9_run 34 = .ok (.iload_n 2, 1) := by decide +kernel
theorem dX9_run_35 : decode cX9_run 35 = .ok (.iload_n 1, 1) := by decide +kernel
theorem dX9_run_36 : decode cX9_run 36 = .ok (.if_icmp .ge 67, 3) := by decide +kernel
theorem dX9_run_39 : decode cX9_run 39 = .ok (.aload_n 0, 1) := by decide +kernel
theorem dX9_run_40 : decode cX9_run 40 = .ok (.getfield 22, 3) := by decide +kernel
theorem dX9_run_43 : decode cX9_run 43 = .ok (.iconst 2, 1) := by decide +kernel
theorem dX9_run_44 : decode cX9_run 44 = .ok (.if_icmp .ge 59, 3) := by decide +kernel
theorem dX9_run_47 : decode cX9_run 47 = .ok (.aload_n 0, 1) := by decide +kernel
theorem dX9_run_48 : decode cX9_run 48 = .ok (.getfield 48, 3) := by decide +kernel
theorem dX9_run_51 : decode cX9_run 51 = .ok (.ifCond .ne 52, 3) := by decide +kernel
theorem dX9_run_54 : decode cX9_run 54 = .ok (.aload_n 0, 1) := by decide +kernel
theorem dX9_run_55 : decode cX9_run 55 = .ok (.getfield 22, 3) := by decide +kernel
theorem dX9_run_58 : decode cX9_run 58 = .ok (.ifCond .ne 27, 3) := by decide +kernel
theorem dX9_run_61 : decode cX9_run 61 = .ok (.aload_n 0, 1) := by decide +kernel
theorem dX9_run_62 : decode cX9_run 62 = .ok (.iconst 0, 1) := by decide +kernel
theorem dX9_run_63 : decode cX9_run 63 = .ok (.putfield 87, 3) := by decide +kernel
theorem dX9_run_66 : decode cX9_run 66 = .ok (.aload_n 0, 1) := by decide +kernel
theorem dX9_run_67 : decode cX9_run 67 = .ok (.invokevirtual 270, 3) := by decide +kernel
theorem dX9_run_70 : decode cX9_run 70 = .ok (.aload_n 0, 1) := by decide +kernel
theorem dX9_run_71 : decode cX9_run 71 = .ok (.getfield 87, 3) := by decide +kernel
theorem dX9_run_74 : decode cX9_run 74 = .ok (.ifCond .le 11, 3) := by decide +kernel
theorem dX9_run_77 : decode cX9_run 77 = .ok (.aload_n 0, 1) := by decide +kernel
theorem dX9_run_78 : decode cX9_run 78 = .ok (.aload_n 0, 1) := by decide +kernel
theorem dX9_run_79 : decode cX9_run 79 = .ok (.getfield 87, 3) := by decide +kernel
theorem dX9_run_82 : decode cX9_run 82 = .ok (.invokevirtual 248, 3) := by decide +kernel
theorem dX9_run_85 : decode cX9_run 85 = .ok (.aload_n 0, 1) := by decide +kernel
theorem dX9_run_86 : decode cX9_run 86 = .ok (.getfield 22, 3) := by decide +kernel
theorem dX9_run_89 : decode cX9_run 89 = .ok (.iconst 2, 1) := by decide +kernel
theorem dX9_run_90 : decode cX9_run 90 = .ok (.if_icmp .ge 7, 3) := by decide +kernel
theorem dX9_run_93 : decode cX9_run 93 = .ok (.aload_n 0, 1) := by decide +kernel
theorem dX9_run_94 : decode cX9_run 94 = .ok (.invokevirtual 273, 3) := by decide +kernel
theorem dX9_run_97 : decode cX9_run 97 = .ok (.iinc 2 1, 3) := by decide +kernel
theorem dX9_run_100 : decode cX9_run 100 = .ok (.goto (-66), 3) := by decide +kernel
theorem dX9_run_103 : decode cX9_run 103 = .ok (.iload_n 2, 1) := by decide +kernel
theorem dX9_run_104 : decode cX9_run 104 = .ok (.ireturn, 1) := by decide +kernel
set_option maxRecDepth 20000 in
theorem ggL_deposit_X8_deposit : GoodIn wsL_deposit wsX8_deposit := goodIn_ca (goodIn_r _ [6, 7, 8, 9, 10, 11, 12, 5, 13, 14, 15, 16, 17, 18, 19, 20, 21, 22, 23, 24, 25] (by decide +kernel) (by decide +kernel)) (goodIn_sub (fun _ h => List.mem_cons_of_mem _ (List.mem_append_right _ h)) (by decide +kernel))
set_option maxRecDepth 20000 in
theorem gL_deposit_X8_deposit : GoodIn wsL_deposit (wsV RL 7 RX8 yX8_deposit wsX8_deposit) := goodIn_app (goodIn_of _ (by decide +kernel)) ggL_deposit_X8_deposit
theorem dL_deposit_0 : decode cL_deposit 0 = .ok (.aload_n 0, 1) := by decide +kernel
theorem dL_deposit_1 : decode cL_deposit 1 = .ok (.iload_n 1, 1) := by decide +kernel
theorem dL_deposit_2 : decode cL_deposit 2 = .ok (.iload_n 2, 1) := by decide +kernel
theorem dL_deposit_3 : decode cL_deposit 3 = .ok (.invokevirtual 7, 3) := by decide +kernel
theorem dL_deposit_6 : decode cL_deposit 6 = .ok (.goto 6, 3) := by decide +kernel
theorem dL_deposit_9 : decode cL_deposit 9 = .ok (.astore_n 3, 1) := by decide +kernel
theorem dL_deposit_10 : decode cL_deposit 10 = .ok (.iconst 1, 1) := by decide +kernel
theorem dL_deposit_11 : decode cL_deposit 11 = .ok (.ireturn, 1) := by decide +kernel
theorem dL_deposit_12 : decode cL_deposit 12 = .ok (.iconst 0, 1) := by decide +kernel
theorem dL_deposit_13 : decode cL_deposit 13 = .ok (.ireturn, 1) := by decide +kernel
set_option maxRecDepth 20000 in
theorem ggL_set_X8_set : GoodIn wsL_set wsX8_set := goodIn_ca (goodIn_r _ [6, 7, 8, 9, 10, 11, 12, 13, 5, 14, 15, 16, 17, 18, 19, 20, 21, 22, 23, 24, 25, 26, 27, 28, 29, 30, 31, 32, 33, 34, 35] (by decide +kernel) (by decide +kernel)) (goodIn_sub (fun _ h => List.mem_cons_of_mem _ (List.mem_append_right _ h)) (by decide +kernel))
set_option maxRecDepth 20000 in
theorem gL_set_X8_set : GoodIn wsL_set (wsV RL 19 RX8 yX8_set wsX8_set) := goodIn_app (goodIn_of _ (by decide +kernel)) ggL_set_X8_set
theorem dL_set_0 : decode cL_set 0 = .ok (.aload_n 0, 1) := by decide +kernel
theorem dL_set_1 : decode cL_set 1 = .ok (.iload_n 1, 1) := by decide +kernel
theorem dL_set_2 : decode cL_set 2 = .ok (.iload_n 2, 1) := by decide +kernel
theorem dL_set_3 : decode cL_set 3 = .ok (.invokevirtual 19, 3) := by decide +kernel
theorem dL_set_6 : decode cL_set 6 = .ok (.goto 6, 3) := by decide +kernel
theorem dL_set_9 : decode cL_set 9 = .ok (.astore_n 3, 1) := by decide +kernel
theorem dL_set_10 : decode cL_set 10 = .ok (.iconst 1, 1) := by decide +kernel
theorem dL_set_11 : decode cL_set 11 = .ok (.ireturn, 1) := by decide +kernel
theorem dL_set_12 : decode cL_set 12 = .ok (.iconst 0, 1) := by decide +kernel
theorem dL_set_13 : decode cL_set 13 = .ok (.ireturn, 1) := by decide +kernel
set_option maxRecDepth 20000 in
theorem ggL_start_X8_start : GoodIn wsL_start wsX8_start := goodIn_ca (goodIn_r _ [6, 7, 8, 9, 10, 11, 12, 13, 14, 5, 15, 16, 17, 18, 19, 20, 21, 22, 23, 24, 25, 26, 27, 28, 29, 30, 31, 32, 33, 34, 35, 36, 37, 38] (by decide +kernel) (by decide +kernel)) (goodIn_sub (fun _ h => List.mem_cons_of_mem _ (List.mem_append_right _ h)) (by decide +kernel))
set_option maxRecDepth 20000 in
theorem gL_start_X8_start : GoodIn wsL_start (wsV RL 25 RX8 yX8_start wsX8_start) := goodIn_app (goodIn_of _ (by decide +kernel)) ggL_start_X8_start
theorem dL_start_0 : decode cL_start 0 = .ok (.aload_n 0, 1) := by decide +kernel
theorem dL_start_1 : decode cL_start 1 = .ok (.iload_n 1, 1) := by decide +kernel
theorem dL_start_2 : decode cL_start 2 = .ok (.invokevirtual 25, 3) := by decide +kernel
theorem dL_start_5 : decode cL_start 5 = .ok (.goto 6, 3) := by decide +kernel
theorem dL_start_8 : decode cL_start 8 = .ok (.astore_n 2, 1) := by decide +kernel
theorem dL_start_9 : decode cL_start 9 = .ok (.iconst 1, 1) := by decide +kernel
theorem dL_start_10 : decode cL_start 10 = .ok (.ireturn, 1) := by decide +kernel
theorem dL_start_11 : decode cL_start 11 = .ok (.iconst 0, 1) := by decide +kernel
theorem dL_start_12 : decode cL_start 12 = .ok (.ireturn, 1) := by decide +kernel
set_option maxRecDepth 20000 in
theorem ggL_run_X8_run : GoodIn wsL_run wsX8_run := goodIn_ca (goodIn_ca (goodIn_ca (goodIn_r _ [5, 6, 7, 8, 9, 10, 11, 12, 13, 14, 15, 16, 17, 18, 19, 20, 21, 22, 23, 24, 25, 26, 27, 28, 29, 30, 31, 32, 33, 34, 35, 36, 37, 38, 39, 40, 41, 42, 43, 44, 45, 46, 47, 48, 49, 50, 51, 52, 53, 54, 55, 56, 57, 58, 59, 60, 61, 62, 63, 64, 65, 66, 67, 68, 69, 70, 71, 72, 73, 74, 75, 76, 77, 78, 79, 80, 81, 82, 83, 84, 85, 86, 87, 88, 89, 90, 91, 92, 93, 94, 95, 96, 97, 98, 99, 100, 101, 102, 103, 104, 105, 106, 107, 108, 109, 110, 111, 112, 113, 114, 115, 116, 117, 118, 119, 120, 121, 122, 123, 124, 125, 126, 127, 128, 129, 130, 131, 132, 133, 134, 135, 136, 137, 138, 139, 140, 141, 142, 143, 144, 145, 146, 147, 148, 149, 150, 151, 152, 153, 154, 155, 156, 157, 158, 159, 160, 161, 162, 163, 164, 165, 166, 167, 168, 169, 170, 171, 172, 173, 174, 175, 176, 177, 178, 179, 180, 181, 182, 183, 184, 185, 186, 187, 188, 189, 190, 191, 192, 193, 194, 195, 196, 197, 198, 199, 200, 201, 202, 203, 204, 205, 206, 207, 208, 209, 210, 211, 212, 213, 214, 215, 216, 217, 218, 219, 220, 221, 222, 223, 224, 225, 226, 227, 228, 229, 230, 231, 232, 233, 234, 235, 236, 237, 238, 239, 240, 241, 242, 243, 244, 245, 246, 247, 248, 249, 250] (by decide +kernel) (by decide +kernel)) (goodIn_sub (fun _ h => List.mem_cons_of_mem _ (List.mem_append_left _ (List.mem_append_left _ (List.mem_append_right _ h)))) (by decide +kernel))) (goodIn_sub (fun _ h => List.mem_cons_of_mem _ (List.mem_append_left _ (List.mem_append_right _ h))) (by decide +kernel))) (goodIn_sub (fun _ h => List.mem_cons_of_mem _ (List.mem_append_right _ h)) (by decide +kernel))
set_option maxRecDepth 20000 in
theorem gL_run_X8_run : GoodIn wsL_run (wsV RL 29 RX8 yX8_run wsX8_run) := goodIn_app (goodIn_of _ (by decide +kernel)) ggL_run_X8_run
theorem dL_run_0 : decode cL_run 0 = .ok (.aload_n 2, 1) := by decide +kernel
theorem dL_run_1 : decode cL_run 1 = .ok (.iconst 0, 1) := by decide +kernel
theorem dL_run_2 : decode cL_run 2 = .ok (.aload_n 0, 1) := by decide +kernel
theorem dL_run_3 : decode cL_run 3 = .ok (.iload_n 1, 1) := by decide +kernel
theorem dL_run_4 : decode cL_run 4 = .ok (.invokevirtual 29, 3) := by decide +kernel
theorem dL_run_7 : decode cL_run 7 = .ok (.i2l, 1) := by decide +kernel
theorem dL_run_8 : decode cL_run 8 = .ok (.lastore, 1) := by decide +kernel
theorem dL_run_9 : decode cL_run 9 = .ok (.goto 9, 3) := by decide +kernel
theorem dL_run_12 : decode cL_run 12 = .ok (.astore_n 3, 1) := by decide +kernel
theorem dL_run_13 : decode cL_run 13 = .ok (.iconst 1, 1) := by decide +kernel
theorem dL_run_14 : decode cL_run 14 = .ok (.ireturn, 1) := by decide +kernel
theorem dL_run_15 : decode cL_run 15 = .ok (.astore_n 3, 1) := by decide +kernel
theorem dL_run_16 : decode cL_run 16 = .ok (.iconst 2, 1) := by decide +kernel
theorem dL_run_17 : decode cL_run 17 = .ok (.ireturn, 1) := by decide +kernel
theorem dL_run_18 : decode cL_run 18 = .ok (.iconst 0, 1) := by decide +kernel
theorem dL_run_19 : decode cL_run 19 = .ok (.ireturn, 1) := by decide +kernel
theorem dL_law_0 : decode cL_law 0 = .ok (.new 8, 3) := by decide +kernel
theorem dL_law_3 : decode cL_law 3 = .ok (.dup, 1) := by decide +kernel
theorem dL_law_4 : decode cL_law 4 = .ok (.invokespecial 50, 3) := by decide +kernel
theorem dL_law_7 : decode cL_law 7 = .ok (.astore_n 1, 1) := by decide +kernel
theorem dL_law_8 : decode cL_law 8 = .ok (.new 51, 3) := by decide +kernel
theorem dL_law_11 : decode cL_law 11 = .ok (.dup, 1) := by decide +kernel
theorem dL_law_12 : decode cL_law 12 = .ok (.invokespecial 53, 3) := by decide +kernel
theorem dL_law_15 : decode cL_law 15 = .ok (.astore_n 2, 1) := by decide +kernel
theorem dL_law_16 : decode cL_law 16 = .ok (.iconst 1, 1) := by decide +kernel
theorem dL_law_17 : decode cL_law 17 = .ok (.newarray .long, 2) := by decide +kernel
theorem dL_law_19 : decode cL_law 19 = .ok (.astore_n 3, 1) := by decide +kernel
theorem dL_law_20 : decode cL_law 20 = .ok (.iconst 0, 1) := by decide +kernel
theorem dL_law_21 : decode cL_law 21 = .ok (.istore 4, 2) := by decide +kernel
theorem dL_law_23 : decode cL_law 23 = .ok (.iload 4, 2) := by decide +kernel
theorem dL_law_25 : decode cL_law 25 = .ok (.aload_n 0, 1) := by decide +kernel
theorem dL_law_26 : decode cL_law 26 = .ok (.arraylength, 1) := by decide +kernel
theorem dL_law_27 : decode cL_law 27 = .ok (.iconst 4, 1) := by decide +kernel
theorem dL_law_28 : decode cL_law 28 = .ok (.isub, 1) := by decide +kernel
theorem dL_law_29 : decode cL_law 29 = .ok (.if_icmp .gt 451, 3) := by decide +kernel
theorem dL_law_32 : decode cL_law 32 = .ok (.aload_n 0, 1) := by decide +kernel
theorem dL_law_33 : decode cL_law 33 = .ok (.iload 4, 2) := by decide +kernel
theorem dL_law_35 : decode cL_law 35 = .ok (.iaload, 1) := by decide +kernel
theorem dL_law_36 : decode cL_law 36 = .ok (.bipush 15, 2) := by decide +kernel
theorem dL_law_38 : decode cL_law 38 = .ok (.iand, 1) := by decide +kernel
theorem dL_law_39 : decode cL_law 39 = .ok (.tableswitch 435 0 11 #[61, 109, 137, 174, 202, 227, 255, 280, 308, 357, 397, 422], 61) := by decide +kernel
theorem dL_law_100 : decode cL_law 100 = .ok (.aload_n 1, 1) := by decide +kernel
theorem dL_law_101 : decode cL_law 101 = .ok (.aload_n 0, 1) := by decide +kernel
theorem dL_law_102 : decode cL_law 102 = .ok (.iload 4, 2) := by decide +kernel
theorem dL_law_104 : decode cL_law 104 = .ok (.iconst 1, 1) := by decide +kernel
theorem dL_law_105 : decode cL_law 105 = .ok (.iadd, 1) := by decide +kernel
theorem dL_law_106 : decode cL_law 106 = .ok (.iaload, 1) := by decide +kernel
theorem dL_law_107 : decode cL_law 107 = .ok (.aload_n 0, 1) := by decide +kernel
theorem dL_law_108 : decode cL_law 108 = .ok (.iload 4, 2) := by decide +kernel
theorem dL_law_110 : decode cL_law 110 = .ok (.iconst 2, 1) := by decide +kernel
theorem dL_law_111 : decode cL_law 111 = .ok (.iadd, 1) := by decide +kernel
theorem dL_law_112 : decode cL_law 112 = .ok (.iaload, 1) := by decide +kernel
theorem dL_law_113 : decode cL_law 113 = .ok (.invokestatic 54, 3) := by decide +kernel
theorem dL_law_116 : decode cL_law 116 = .ok (.istore 5, 2) := by decide +kernel
theorem dL_law_118 : decode cL_law 118 = .ok (.aload_n 2, 1) := by decide +kernel
theorem dL_law_119 : decode cL_law 119 = .ok (.aload_n 0, 1) := by decide +kernel
theorem dL_law_120 : decode cL_law 120 = .ok (.iload 4, 2) := by decide +kernel
theorem dL_law_122 : decode cL_law 122 = .ok (.iconst 1, 1) := by decide +kernel
theorem dL_law_123 : decode cL_law 123 = .ok (.iadd, 1) := by decide +kernel
theorem dL_law_124 : decode cL_law 124 = .ok (.iaload, 1) := by decide +kernel
theorem dL_law_125 : decode cL_law 125 = .ok (.aload_n 0, 1) := by decide +kernel
theorem dL_law_126 : decode cL_law 126 = .ok (.iload 4, 2) := by decide +kernel
theorem dL_law_128 : decode cL_law 128 = .ok (.iconst 2, 1) := by decide +kernel
theorem dL_law_129 : decode cL_law 129 = .ok (.iadd, 1) := by decide +kernel
theorem dL_law_130 : decode cL_law 130 = .ok (.iaload, 1) := by decide +kernel
theorem dL_law_131 : decode cL_law 131 = .ok (.invokevirtual 59, 3) := by decide +kernel
theorem dL_law_134 : decode cL_law 134 = .ok (.aload_n 2, 1) := by decide +kernel
theorem dL_law_135 : decode cL_law 135 = .ok (.invokevirtual 60, 3) := by decide +kernel
theorem dL_law_138 : decode cL_law 138 = .ok (.iload 5, 2) := by decide +kernel
theorem dL_law_140 : decode cL_law 140 = .ok (.if_icmp .eq 5, 3) := by decide +kernel
theorem dL_law_143 : decode cL_law 143 = .ok (.iconst 0, 1) := by decide +kernel
theorem dL_law_144 : decode cL_law 144 = .ok (.ireturn, 1) := by decide +kernel
theorem dL_law_145 : decode cL_law 145 = .ok (.goto 329, 3) := by decide +kernel
theorem dL_law_148 : decode cL_law 148 = .ok (.aload_n 1, 1) := by decide +kernel
theorem dL_law_149 : decode cL_law 149 = .ok (.aload_n 0, 1) := by decide +kernel
theorem dL_law_150 : decode cL_law 150 = .ok (.iload 4, 2) := by decide +kernel
theorem dL_law_152 : decode cL_law 152 = .ok (.iconst 1, 1) := by decide +kernel
theorem dL_law_153 : decode cL_law 153 = .ok (.iadd, 1) := by decide +kernel
theorem dL_law_154 : decode cL_law 154 = .ok (.iaload, 1) := by decide +kernel
theorem dL_law_155 : decode cL_law 155 = .ok (.aload_n 3, 1) := by decide +kernel
theorem dL_law_156 : decode cL_law 156 = .ok (.invokestatic 64, 3) := by decide +kernel
theorem dL_law_159 : decode cL_law 159 = .ok (.istore 5, 2) := by decide +kernel
theorem dL_law_161 : decode cL_law 161 = .ok (.aload_n 2, 1) := by decide +kernel
theorem dL_law_162 : decode cL_law 162 = .ok (.aload_n 0, 1) := by decide +kernel
theorem dL_law_163 : decode cL_law 163 = .ok (.iload 4, 2) := by decide +kernel
theorem dL_law_165 : decode cL_law 165 = .ok (.iconst 1, 1) := by decide +kernel
theorem dL_law_166 : decode cL_law 166 = .ok (.iadd, 1) := by decide +kernel
theorem dL_law_167 : decode cL_law 167 = .ok (.iaload, 1) := by decide +kernel
theorem dL_law_168 : decode cL_law 168 = .ok (.invokevirtual 67, 3) := by decide +kernel
theorem dL_law_171 : decode cL_law 171 = .ok (.istore 6, 2) := by decide +kernel
theorem dL_law_173 : decode cL_law 173 = .ok (.goto 301, 3) := by decide +kernel
theorem dL_law_176 : decode cL_law 176 = .ok (.aload_n 1, 1) := by decide +kernel
theorem dL_law_177 : decode cL_law 177 = .ok (.aload_n 0, 1) := by decide +kernel
theorem dL_law_178 : decode cL_law 178 = .ok (.iload 4, 2) := by decide +kernel
theorem dL_law_180 : decode cL_law 180 = .ok (.iconst 1, 1) := by decide +kernel
theorem dL_law_181 : decode cL_law 181 = .ok (.iadd, 1) := by decide +kernel
theorem dL_law_182 : decode cL_law 182 = .ok (.iaload, 1) := by decide +kernel
theorem dL_law_183 : decode cL_law 183 = .ok (.aload_n 0, 1) := by decide +kernel
theorem dL_law_184 : decode cL_law 184 = .ok (.iload 4, 2) := by decide +kernel
theorem dL_law_186 : decode cL_law 186 = .ok (.iconst 2, 1) := by decide +kernel
theorem dL_law_187 : decode cL_law 187 = .ok (.iadd, 1) := by decide +kernel
theorem dL_law_188 : decode cL_law 188 = .ok (.iaload, 1) := by decide +kernel
theorem dL_law_189 : decode cL_law 189 = .ok (.invokestatic 68, 3) := by decide +kernel
theorem dL_law_192 : decode cL_law 192 = .ok (.istore 5, 2) := by decide +kernel
theorem dL_law_194 : decode cL_law 194 = .ok (.aload_n 2, 1) := by decide +kernel
theorem dL_law_195 : decode cL_law 195 = .ok (.aload_n 0, 1) := by decide +kernel
theorem dL_law_196 : decode cL_law 196 = .ok (.iload 4, 2) := by decide +kernel
theorem dL_law_198 : decode cL_law 198 = .ok (.iconst 1, 1) := by decide +kernel
theorem dL_law_199 : decode cL_law 199 = .ok (.iadd, 1) := by decide +kernel
theorem dL_law_200 : decode cL_law 200 = .ok (.iaload, 1) := by decide +kernel
theorem dL_law_201 : decode cL_law 201 = .ok (.aload_n 0, 1) := by decide +kernel
theorem dL_law_202 : decode cL_law 202 = .ok (.iload 4, 2) := by decide +kernel
theorem dL_law_204 : decode cL_law 204 = .ok (.iconst 2, 1) := by decide +kernel
theorem dL_law_205 : decode cL_law 205 = .ok (.iadd, 1) := by decide +kernel
theorem dL_law_206 : decode cL_law 206 = .ok (.iaload, 1) := by decide +kernel
theorem dL_law_207 : decode cL_law 207 = .ok (.invokevirtual 70, 3) := by decide +kernel
theorem dL_law_210 : decode cL_law 210 = .ok (.goto 264, 3) := by decide +kernel
theorem dL_law_213 : decode cL_law 213 = .ok (.aload_n 1, 1) := by decide +kernel
theorem dL_law_214 : decode cL_law 214 = .ok (.aload_n 0, 1) := by decide +kernel
theorem dL_law_215 : decode cL_law 215 = .ok (.iload 4, 2) := by decide +kernel
theorem dL_law_217 : decode cL_law 217 = .ok (.iconst 1, 1) := by decide +kernel
theorem dL_law_218 : decode cL_law 218 = .ok (.iadd, 1) := by decide +kernel
theorem dL_law_219 : decode cL_law 219 = .ok (.iaload, 1) := by decide +kernel
theorem dL_law_220 : decode cL_law 220 = .ok (.aload_n 3, 1) := by decide +kernel
theorem dL_law_221 : decode cL_law 221 = .ok (.invokestatic 71, 3) := by decide +kernel
theorem dL_law_224 : decode cL_law 224 = .ok (.istore 5, 2) := by decide +kernel
theorem dL_law_226 : decode cL_law 226 = .ok (.aload_n 2, 1) := by decide +kernel
theorem dL_law_227 : decode cL_law 227 = .ok (.aload_n 0, 1) := by decide +kernel
theorem dL_law_228 : decode cL_law 228 = .ok (.iload 4, 2) := by decide +kernel
theorem dL_law_230 : decode cL_law 230 = .ok (.iconst 1, 1) := by decide +kernel
theorem dL_law_231 : decode cL_law 231 = .ok (.iadd, 1) := by decide +kernel
theorem dL_law_232 : decode cL_law 232 = .ok (.iaload, 1) := by decide +kernel
theorem dL_law_233 : decode cL_law 233 = .ok (.invokevirtual 73, 3) := by decide +kernel
theorem dL_law_236 : decode cL_law 236 = .ok (.istore 6, 2) := by decide +kernel
theorem dL_law_238 : decode cL_law 238 = .ok (.goto 236, 3) := by decide +kernel
theorem dL_law_241 : decode cL_law 241 = .ok (.aload_n 1, 1) := by decide +kernel
theorem dL_law_242 : decode cL_law 242 = .ok (.aload_n 0, 1) := by decide +kernel
theorem dL_law_243 : decode cL_law 243 = .ok (.iload 4, 2) := by decide +kernel
theorem dL_law_245 : decode cL_law 245 = .ok (.iconst 1, 1) := by decide +kernel
theorem dL_law_246 : decode cL_law 246 = .ok (.iadd, 1) := by decide +kernel
theorem dL_law_247 : decode cL_law 247 = .ok (.iaload, 1) := by decide +kernel
theorem dL_law_248 : decode cL_law 248 = .ok (.invokestatic 74, 3) := by decide +kernel
theorem dL_law_251 : decode cL_law 251 = .ok (.istore 5, 2) := by decide +kernel
theorem dL_law_253 : decode cL_law 253 = .ok (.aload_n 2, 1) := by decide +kernel
theorem dL_law_254 : decode cL_law 254 = .ok (.aload_n 0, 1) := by decide +kernel
theorem dL_law_255 : decode cL_law 255 = .ok (.iload 4, 2) := by decide +kernel
theorem dL_law_257 : decode cL_law 257 = .ok (.iconst 1, 1) := by decide +kernel
theorem dL_law_258 : decode cL_law 258 = .ok (.iadd, 1) := by decide +kernel
theorem dL_law_259 : decode cL_law 259 = .ok (.iaload, 1) := by decide +kernel
theorem dL_law_260 : decode cL_law 260 = .ok (.invokevirtual 77, 3) := by decide +kernel
theorem dL_law_263 : decode cL_law 263 = .ok (.goto 211, 3) := by decide +kernel
theorem dL_law_266 : decode cL_law 266 = .ok (.aload_n 1, 1) := by decide +kernel
theorem dL_law_267 : decode cL_law 267 = .ok (.aload_n 0, 1) := by decide +kernel
theorem dL_law_268 : decode cL_law 268 = .ok (.iload 4, 2) := by decide +kernel
theorem dL_law_270 : decode cL_law 270 = .ok (.iconst 1, 1) := by decide +kernel
theorem dL_law_271 : decode cL_law 271 = .ok (.iadd, 1) := by decide +kernel
theorem dL_law_272 : decode cL_law 272 = .ok (.iaload, 1) := by decide +kernel
theorem dL_law_273 : decode cL_law 273 = .ok (.aload_n 3, 1) := by decide +kernel
theorem dL_law_274 : decode cL_law 274 = .ok (.invokestatic 78, 3) := by decide +kernel
theorem dL_law_277 : decode cL_law 277 = .ok (.istore 5, 2) := by decide +kernel
theorem dL_law_279 : decode cL_law 279 = .ok (.aload_n 2, 1) := by decide +kernel
theorem dL_law_280 : decode cL_law 280 = .ok (.aload_n 0, 1) := by decide +kernel
theorem dL_law_281 : decode cL_law 281 = .ok (.iload 4, 2) := by decide +kernel
theorem dL_law_283 : decode cL_law 283 = .ok (.iconst 1, 1) := by decide +kernel
theorem dL_law_284 : decode cL_law 284 = .ok (.iadd, 1) := by decide +kernel
theorem dL_law_285 : decode cL_law 285 = .ok (.iaload, 1) := by decide +kernel
theorem dL_law_286 : decode cL_law 286 = .ok (.invokevirtual 80, 3) := by decide +kernel
theorem dL_law_289 : decode cL_law 289 = .ok (.istore 6, 2) := by decide +kernel
theorem dL_law_291 : decode cL_law 291 = .ok (.goto 183, 3) := by decide +kernel
theorem dL_law_294 : decode cL_law 294 = .ok (.aload_n 1, 1) := by decide +kernel
theorem dL_law_295 : decode cL_law 295 = .ok (.aload_n 0, 1) := by decide +kernel
theorem dL_law_296 : decode cL_law 296 = .ok (.iload 4, 2) := by decide +kernel
theorem dL_law_298 : decode cL_law 298 = .ok (.iconst 1, 1) := by decide +kernel
theorem dL_law_299 : decode cL_law 299 = .ok (.iadd, 1) := by decide +kernel
theorem dL_law_300 : decode cL_law 300 = .ok (.iaload, 1) := by decide +kernel
theorem dL_law_301 : decode cL_law 301 = .ok (.invokestatic 81, 3) := by decide +kernel
theorem dL_law_304 : decode cL_law 304 = .ok (.istore 5, 2) := by decide +kernel
theorem dL_law_306 : decode cL_law 306 = .ok (.aload_n 2, 1) := by decide +kernel
theorem dL_law_307 : decode cL_law 307 = .ok (.aload_n 0, 1) := by decide +kernel
theorem dL_law_308 : decode cL_law 308 = .ok (.iload 4, 2) := by decide +kernel
theorem dL_law_310 : decode cL_law 310 = .ok (.iconst 1, 1) := by decide +kernel
theorem dL_law_311 : decode cL_law 311 = .ok (.iadd, 1) := by decide +kernel
theorem dL_law_312 : decode cL_law 312 = .ok (.iaload, 1) := by decide +kernel
theorem dL_law_313 : decode cL_law 313 = .ok (.invokevirtual 83, 3) := by decide +kernel
theorem dL_law_316 : decode cL_law 316 = .ok (.goto 158, 3) := by decide +kernel
theorem dL_law_319 : decode cL_law 319 = .ok (.aload_n 1, 1) := by decide +kernel
theorem dL_law_320 : decode cL_law 320 = .ok (.aload_n 0, 1) := by decide +kernel
theorem dL_law_321 : decode cL_law 321 = .ok (.iload 4, 2) := by decide +kernel
theorem dL_law_323 : decode cL_law 323 = .ok (.iconst 1, 1) := by decide +kernel
theorem dL_law_324 : decode cL_law 324 = .ok (.iadd, 1) := by decide +kernel
theorem dL_law_325 : decode cL_law 325 = .ok (.iaload, 1) := by decide +kernel
theorem dL_law_326 : decode cL_law 326 = .ok (.aload_n 3, 1) := by decide +kernel
theorem dL_law_327 : decode cL_law 327 = .ok (.invokestatic 84, 3) := by decide +kernel
theorem dL_law_330 : decode cL_law 330 = .ok (.istore 5, 2) := by decide +kernel
theorem dL_law_332 : decode cL_law 332 = .ok (.aload_n 2, 1) := by decide +kernel
theorem dL_law_333 : decode cL_law 333 = .ok (.aload_n 0, 1) := by decide +kernel
theorem dL_law_334 : decode cL_law 334 = .ok (.iload 4, 2) := by decide +kernel
theorem dL_law_336 : decode cL_law 336 = .ok (.iconst 1, 1) := by decide +kernel
theorem dL_law_337 : decode cL_law 337 = .ok (.iadd, 1) := by decide +kernel
theorem dL_law_338 : decode cL_law 338 = .ok (.iaload, 1) := by decide +kernel
theorem dL_law_339 : decode cL_law 339 = .ok (.invokevirtual 86, 3) := by decide +kernel
theorem dL_law_342 : decode cL_law 342 = .ok (.istore 6, 2) := by decide +kernel
theorem dL_law_344 : decode cL_law 344 = .ok (.goto 130, 3) := by decide +kernel
theorem dL_law_347 : decode cL_law 347 = .ok (.aload_n 1, 1) := by decide +kernel
theorem dL_law_348 : decode cL_law 348 = .ok (.aload_n 0, 1) := by decide +kernel
theorem dL_law_349 : decode cL_law 349 = .ok (.iload 4, 2) := by decide +kernel
theorem dL_law_351 : decode cL_law 351 = .ok (.iconst 1, 1) := by decide +kernel
theorem dL_law_352 : decode cL_law 352 = .ok (.iadd, 1) := by decide +kernel
theorem dL_law_353 : decode cL_law 353 = .ok (.iaload, 1) := by decide +kernel
theorem dL_law_354 : decode cL_law 354 = .ok (.aload_n 0, 1) := by decide +kernel
theorem dL_law_355 : decode cL_law 355 = .ok (.iload 4, 2) := by decide +kernel
theorem dL_law_357 : decode cL_law 357 = .ok (.iconst 2, 1) := by decide +kernel
theorem dL_law_358 : decode cL_law 358 = .ok (.iadd, 1) := by decide +kernel
theorem dL_law_359 : decode cL_law 359 = .ok (.iaload, 1) := by decide +kernel
theorem dL_law_360 : decode cL_law 360 = .ok (.aload_n 0, 1) := by decide +kernel
theorem dL_law_361 : decode cL_law 361 = .ok (.iload 4, 2) := by decide +kernel
theorem dL_law_363 : decode cL_law 363 = .ok (.iconst 3, 1) := by decide +kernel
theorem dL_law_364 : decode cL_law 364 = .ok (.iadd, 1) := by decide +kernel
theorem dL_law_365 : decode cL_law 365 = .ok (.iaload, 1) := by decide +kernel
theorem dL_law_366 : decode cL_law 366 = .ok (.invokestatic 87, 3) := by decide +kernel
theorem dL_law_369 : decode cL_law 369 = .ok (.istore 5, 2) := by decide +kernel
theorem dL_law_371 : decode cL_law 371 = .ok (.aload_n 2, 1) := by decide +kernel
theorem dL_law_372 : decode cL_law 372 = .ok (.aload_n 0, 1) := by decide +kernel
theorem dL_law_373 : decode cL_law 373 = .ok (.iload 4, 2) := by decide +kernel
theorem dL_law_375 : decode cL_law 375 = .ok (.iconst 1, 1) := by decide +kernel
theorem dL_law_376 : decode cL_law 376 = .ok (.iadd, 1) := by decide +kernel
theorem dL_law_377 : decode cL_law 377 = .ok (.iaload, 1) := by decide +kernel
theorem dL_law_378 : decode cL_law 378 = .ok (.aload_n 0, 1) := by decide +kernel
theorem dL_law_379 : decode cL_law 379 = .ok (.iload 4, 2) := by decide +kernel
theorem dL_law_381 : decode cL_law 381 = .ok (.iconst 2, 1) := by decide +kernel
theorem dL_law_382 : decode cL_law 382 = .ok (.iadd, 1) := by decide +kernel
theorem dL_law_383 : decode cL_law 383 = .ok (.iaload, 1) := by decide +kernel
theorem dL_law_384 : decode cL_law 384 = .ok (.aload_n 0, 1) := by decide +kernel
theorem dL_law_385 : decode cL_law 385 = .ok (.iload 4, 2) := by decide +kernel
theorem dL_law_387 : decode cL_law 387 = .ok (.iconst 3, 1) := by decide +kernel
theorem dL_law_388 : decode cL_law 388 = .ok (.iadd, 1) := by decide +kernel
theorem dL_law_389 : decode cL_law 389 = .ok (.iaload, 1) := by decide +kernel
theorem dL_law_390 : decode cL_law 390 = .ok (.invokevirtual 90, 3) := by decide +kernel
theorem dL_law_393 : decode cL_law 393 = .ok (.goto 81, 3) := by decide +kernel
theorem dL_law_396 : decode cL_law 396 = .ok (.aload_n 1, 1) := by decide +kernel
theorem dL_law_397 : decode cL_law 397 = .ok (.aload_n 0, 1) := by decide +kernel
theorem dL_law_398 : decode cL_law 398 = .ok (.iload 4, 2) := by decide +kernel
theorem dL_law_400 : decode cL_law 400 = .ok (.iconst 1, 1) := by decide +kernel
theorem dL_law_401 : decode cL_law 401 = .ok (.iadd, 1) := by decide +kernel
theorem dL_law_402 : decode cL_law 402 = .ok (.iaload, 1) := by decide +kernel
theorem dL_law_403 : decode cL_law 403 = .ok (.aload_n 0, 1) := by decide +kernel
theorem dL_law_404 : decode cL_law 404 = .ok (.iload 4, 2) := by decide +kernel
theorem dL_law_406 : decode cL_law 406 = .ok (.iconst 2, 1) := by decide +kernel
theorem dL_law_407 : decode cL_law 407 = .ok (.iadd, 1) := by decide +kernel
theorem dL_law_408 : decode cL_law 408 = .ok (.iaload, 1) := by decide +kernel
theorem dL_law_409 : decode cL_law 409 = .ok (.aload_n 3, 1) := by decide +kernel
theorem dL_law_410 : decode cL_law 410 = .ok (.invokestatic 91, 3) := by decide +kernel
theorem dL_law_413 : decode cL_law 413 = .ok (.istore 5, 2) := by decide +kernel
theorem dL_law_415 : decode cL_law 415 = .ok (.aload_n 2, 1) := by decide +kernel
theorem dL_law_416 : decode cL_law 416 = .ok (.aload_n 0, 1) := by decide +kernel
theorem dL_law_417 : decode cL_law 417 = .ok (.iload 4, 2) := by decide +kernel
theorem dL_law_419 : decode cL_law 419 = .ok (.iconst 1, 1) := by decide +kernel
theorem dL_law_420 : decode cL_law 420 = .ok (.iadd, 1) := by decide +kernel
theorem dL_law_421 : decode cL_law 421 = .ok (.iaload, 1) := by decide +kernel
theorem dL_law_422 : decode cL_law 422 = .ok (.aload_n 0, 1) := by decide +kernel
theorem dL_law_423 : decode cL_law 423 = .ok (.iload 4, 2) := by decide +kernel
theorem dL_law_425 : decode cL_law 425 = .ok (.iconst 2, 1) := by decide +kernel
theorem dL_law_426 : decode cL_law 426 = .ok (.iadd, 1) := by decide +kernel
theorem dL_law_427 : decode cL_law 427 = .ok (.iaload, 1) := by decide +kernel
theorem dL_law_428 : decode cL_law 428 = .ok (.invokevirtual 94, 3) := by decide +kernel
theorem dL_law_431 : decode cL_law 431 = .ok (.istore 6, 2) := by decide +kernel
theorem dL_law_433 : decode cL_law 433 = .ok (.goto 41, 3) := by decide +kernel
theorem dL_law_436 : decode cL_law 436 = .ok (.aload_n 1, 1) := by decide +kernel
theorem dL_law_437 : decode cL_law 437 = .ok (.aload_n 0, 1) := by decide +kernel
theorem dL_law_438 : decode cL_law 438 = .ok (.iload 4, 2) := by decide +kernel
theorem dL_law_440 : decode cL_law 440 = .ok (.iconst 1, 1) := by decide +kernel
theorem dL_law_441 : decode cL_law 441 = .ok (.iadd, 1) := by decide +kernel
theorem dL_law_442 : decode cL_law 442 = .ok (.iaload, 1) := by decide +kernel
theorem dL_law_443 : decode cL_law 443 = .ok (.invokevirtual 95, 3) := by decide +kernel
theorem dL_law_446 : decode cL_law 446 = .ok (.pop, 1) := by decide +kernel
theorem dL_law_447 : decode cL_law 447 = .ok (.aload_n 2, 1) := by decide +kernel
theorem dL_law_448 : decode cL_law 448 = .ok (.aload_n 0, 1) := by decide +kernel
theorem dL_law_449 : decode cL_law 449 = .ok (.iload 4, 2) := by decide +kernel
theorem dL_law_451 : decode cL_law 451 = .ok (.iconst 1, 1) := by decide +kernel
theorem dL_law_452 : decode cL_law 452 = .ok (.iadd, 1) := by decide +kernel
theorem dL_law_453 : decode cL_law 453 = .ok (.iaload, 1) := by decide +kernel
theorem dL_law_454 : decode cL_law 454 = .ok (.invokevirtual 98, 3) := by decide +kernel
theorem dL_law_457 : decode cL_law 457 = .ok (.pop, 1) := by decide +kernel
theorem dL_law_458 : decode cL_law 458 = .ok (.goto 16, 3) := by decide +kernel
theorem dL_law_461 : decode cL_law 461 = .ok (.aload_n 1, 1) := by decide +kernel
theorem dL_law_462 : decode cL_law 462 = .ok (.invokevirtual 99, 3) := by decide +kernel
theorem dL_law_465 : decode cL_law 465 = .ok (.pop, 1) := by decide +kernel
theorem dL_law_466 : decode cL_law 466 = .ok (.aload_n 2, 1) := by decide +kernel
theorem dL_law_467 : decode cL_law 467 = .ok (.invokevirtual 102, 3) := by decide +kernel
theorem dL_law_470 : decode cL_law 470 = .ok (.pop, 1) := by decide +kernel
theorem dL_law_471 : decode cL_law 471 = .ok (.goto 3, 3) := by decide +kernel
theorem dL_law_474 : decode cL_law 474 = .ok (.iinc 4 4, 3) := by decide +kernel
theorem dL_law_477 : decode cL_law 477 = .ok (.goto (-454), 3) := by decide +kernel
theorem dL_law_480 : decode cL_law 480 = .ok (.iconst 1, 1) := by decide +kernel
theorem dL_law_481 : decode cL_law 481 = .ok (.ireturn, 1) := by decide +kernel
