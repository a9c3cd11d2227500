def wsX12_left_r2 : List Cond := [Cond.fieldLink RX12 221 "FairTablesModel" "grants" "I", Cond.fieldLink RX12 68 "FairTablesModel" "grantBook" "[I", Cond.fieldLink RX12 74 "FairTablesModel" "grantLands" "[I", Cond.fieldLink RX12 77 "FairTablesModel" "grantTongues" "[I", Cond.fieldLink RX12 80 "FairTablesModel" "grantForms" "[I", Cond.fieldLink RX12 83 "FairTablesModel" "grantFrom" "[I", Cond.methodLink RX12 227 yX12_lastOf, Cond.instanceMethod yX12_lastOf, Cond.selects RX12 yX12_lastOf yX12_lastOf, Cond.code yX12_lastOf cX12_lastOf 2 (some .int), Cond.fieldLink RX12 89 "FairTablesModel" "grantEnd" "[I", Cond.fieldLink RX12 86 "FairTablesModel" "grantTo" "[I", Cond.methodLink RX12 216 Lib.Math.min.name, Cond.static Lib.Math.min.name, Cond.initialized "java/lang/Math", Cond.code Lib.Math.min.name Lib.Math.min.code 2 (some .int), Cond.methodLink RX12 245 yX12_common, Cond.static yX12_common, Cond.code yX12_common cX12_common 5 (some .int)]
def wsX12_left : List Cond := .code yX12_left cX12_left 11 (some .boolean) :: ((wsX12_left_r1 ++ wsX12_left_r2) ++ wsX120)
def wsX12_option_r1 : List Cond := [Cond.fieldLink RX12 134 "FairTablesModel" "thrown" "I", Cond.fieldLink RX12 137 "FairTablesModel" "status" "I", Cond.fieldLink RX12 254 "FairTablesModel" "options" "I", Cond.fieldLink RX12 92 "FairTablesModel" "optionBook" "[I", Cond.fieldLink RX12 95 "FairTablesModel" "optionEditor" "[I", Cond.fieldLink RX12 98 "FairTablesModel" "optionFrom" "[I", Cond.fieldLink RX12 101 "FairTablesModel" "optionTo" "[I", Cond.methodLink RX12 209 yX12_isBook, Cond.instanceMethod yX12_isBook, Cond.selects RX12 yX12_isBook yX12_isBook, Cond.initialized RX12, Cond.code yX12_isBook cX12_isBook 2 (some .boolean), Cond.fieldLink RX12 198 "FairTablesModel" "books" "I", Cond.methodLink RX12 170 yX12_isEditor, Cond.instanceMethod yX12_isEditor, Cond.selects RX12 yX12_isEditor yX12_isEditor, Cond.code yX12_isEditor cX12_isEditor 2 (some .boolean), Cond.fieldLink RX12 161 "FairTablesModel" "editors" "I", Cond.methodLink RX12 140 yX12_no, Cond.instanceMethod yX12_no, Cond.selects RX12 yX12_no yX12_no, Cond.code yX12_no cX12_no 2 (some .boolean), Cond.methodLink RX12 251 yX12_isMinute, Cond.static yX12_isMinute]
def wsX12_option_r2 : List Cond := [Cond.code yX12_isMinute cX12_isMinute 1 (some .boolean), Cond.constant RX12 201 (100000)]
def wsX12_option : List Cond := .code yX12_option cX12_option 5 (some .boolean) :: ((wsX12_option_r1 ++ wsX12_option_r2) ++ wsX120)
def wsX12_mayBe_r1 : List Cond := [Cond.fieldLink RX12 254 "FairTablesModel" "options" "I", Cond.fieldLink RX12 92 "FairTablesModel" "optionBook" "[I", Cond.fieldLink RX12 95 "FairTablesModel" "optionEditor" "[I", Cond.fieldLink RX12 98 "FairTablesModel" "optionFrom" "[I", Cond.fieldLink RX12 101 "FairTablesModel" "optionTo" "[I", Cond.methodLink RX12 212 yX12_isOpenTo, Cond.instanceMethod yX12_isOpenTo, Cond.selects RX12 yX12_isOpenTo yX12_isOpenTo, Cond.initialized RX12, Cond.code yX12_isOpenTo cX12_isOpenTo 3 (some .boolean), Cond.fieldLink RX12 62 "FairTablesModel" "isSecret" "[Z", Cond.fieldLink RX12 65 "FairTablesModel" "isListed" "[Z", Cond.methodLink RX12 234 yX12_clashes, Cond.instanceMethod yX12_clashes, Cond.selects RX12 yX12_clashes yX12_clashes, Cond.code yX12_clashes cX12_clashes 8 (some .boolean), Cond.fieldLink RX12 221 "FairTablesModel" "grants" "I", Cond.fieldLink RX12 68 "FairTablesModel" "grantBook" "[I", Cond.fieldLink RX12 74 "FairTablesModel" "grantLands" "[I", Cond.fieldLink RX12 77 "FairTablesModel" "grantTongues" "[I", Cond.fieldLink RX12 80 "FairTablesModel" "grantForms" "[I", Cond.fieldLink RX12 83 "FairTablesModel" "grantFrom" "[I", Cond.methodLink RX12 224 Lib.Math.max.name, Cond.static Lib.Math.max.name]
def wsX12_mayBe_r2 : List Cond := [Cond.initialized "java/lang/Math", Cond.code Lib.Math.max.name Lib.Math.max.code 2 (some .int), Cond.methodLink RX12 216 Lib.Math.min.name, Cond.static Lib.Math.min.name, Cond.code Lib.Math.min.name Lib.Math.min.code 2 (some .int), Cond.methodLink RX12 227 yX12_lastOf, Cond.instanceMethod yX12_lastOf, Cond.selects RX12 yX12_lastOf yX12_lastOf, Cond.code yX12_lastOf cX12_lastOf 2 (some .int), Cond.fieldLink RX12 89 "FairTablesModel" "grantEnd" "[I", Cond.fieldLink RX12 86 "FairTablesModel" "grantTo" "[I"]
def wsX12_mayBe : List Cond := .code yX12_mayBe cX12_mayBe 10 (some .boolean) :: ((wsX12_mayBe_r1 ++ wsX12_mayBe_r2) ++ wsX120)
def wsX12_may_r1 : List Cond := [Cond.fieldLink RX12 134 "FairTablesModel" "thrown" "I", Cond.fieldLink RX12 137 "FairTablesModel" "status" "I", Cond.methodLink RX12 209 yX12_isBook, Cond.instanceMethod yX12_isBook, Cond.selects RX12 yX12_isBook yX12_isBook, Cond.initialized RX12, Cond.code yX12_isBook cX12_isBook 2 (some .boolean), Cond.fieldLink RX12 198 "FairTablesModel" "books" "I", Cond.methodLink RX12 170 yX12_isEditor, Cond.instanceMethod yX12_isEditor, Cond.selects RX12 yX12_isEditor yX12_isEditor, Cond.code yX12_isEditor cX12_isEditor 2 (some .boolean), Cond.fieldLink RX12 161 "FairTablesModel" "editors" "I", Cond.methodLink RX12 164 yX12_refuse, Cond.instanceMethod yX12_refuse, Cond.selects RX12 yX12_refuse yX12_refuse, Cond.code yX12_refuse cX12_refuse 2 (some .int), Cond.methodLink RX12 230 yX12_areRights, Cond.static yX12_areRights, Cond.code yX12_areRights cX12_areRights 5 (some .boolean), Cond.methodLink RX12 202 yX12_areCells, Cond.static yX12_areCells, Cond.code yX12_areCells cX12_areCells 3 (some .boolean), Cond.methodLink RX12 206 yX12_isDay]
def wsX12_may_r2 : List Cond := [Cond.static yX12_isDay, Cond.code yX12_isDay cX12_isDay 1 (some .boolean), Cond.methodLink RX12 251 yX12_isMinute, Cond.static yX12_isMinute, Cond.code yX12_isMinute cX12_isMinute 1 (some .boolean), Cond.constant RX12 201 (100000), Cond.methodLink RX12 257 yX12_mayBe, Cond.instanceMethod yX12_mayBe, Cond.selects RX12 yX12_mayBe yX12_mayBe, Cond.code yX12_mayBe cX12_mayBe 10 (some .boolean), Cond.fieldLink RX12 254 "FairTablesModel" "options" "I", Cond.fieldLink RX12 92 "FairTablesModel" "optionBook" "[I", Cond.fieldLink RX12 95 "FairTablesModel" "optionEditor" "[I", Cond.fieldLink RX12 98 "FairTablesModel" "optionFrom" "[I", Cond.fieldLink RX12 101 "FairTablesModel" "optionTo" "[I", Cond.methodLink RX12 212 yX12_isOpenTo, Cond.instanceMethod yX12_isOpenTo, Cond.selects RX12 yX12_isOpenTo yX12_isOpenTo, Cond.code yX12_isOpenTo cX12_isOpenTo 3 (some .boolean), Cond.fieldLink RX12 62 "FairTablesModel" "isSecret" "[Z", Cond.fieldLink RX12 65 "FairTablesModel" "isListed" "[Z", Cond.methodLink RX12 234 yX12_clashes, Cond.instanceMethod yX12_clashes, Cond.selects RX12 yX12_clashes yX12_clashes]
def wsX12_may_r3 : List Cond := [Cond.code yX12_clashes cX12_clashes 8 (some .boolean), Cond.fieldLink RX12 221 "FairTablesModel" "grants" "I", Cond.fieldLink RX12 68 "FairTablesModel" "grantBook" "[I", Cond.fieldLink RX12 74 "FairTablesModel" "grantLands" "[I", Cond.fieldLink RX12 77 "FairTablesModel" "grantTongues" "[I", Cond.fieldLink RX12 80 "FairTablesModel" "grantForms" "[I", Cond.fieldLink RX12 83 "FairTablesModel" "grantFrom" "[I", Cond.methodLink RX12 224 Lib.Math.max.name, Cond.static Lib.Math.max.name, Cond.initialized "java/lang/Math", Cond.code Lib.Math.max.name Lib.Math.max.code 2 (some .int), Cond.methodLink RX12 216 Lib.Math.min.name, Cond.static Lib.Math.min.name, Cond.code Lib.Math.min.name Lib.Math.min.code 2 (some .int), Cond.methodLink RX12 227 yX12_lastOf, Cond.instanceMethod yX12_lastOf, Cond.selects RX12 yX12_lastOf yX12_lastOf, Cond.code yX12_lastOf cX12_lastOf 2 (some .int), Cond.fieldLink RX12 89 "FairTablesModel" "grantEnd" "[I", Cond.fieldLink RX12 86 "FairTablesModel" "grantTo" "[I"]
def wsX12_may : List Cond := .code yX12_may cX12_may 9 (some .int) :: ((wsX12_may_r1 ++ (wsX12_may_r2 ++ wsX12_may_r3)) ++ wsX120)
def wsX12_upper : List Cond := .code yX12_upper cX12_upper 1 (some .long) :: ([.fieldLink RX12 134 "FairTablesModel" "thrown" "I", .fieldLink RX12 248 "FairTablesModel" "above" "J"] ++ wsX120)
def wsX12_lower : List Cond := .code yX12_lower cX12_lower 1 (some .long) :: ([.fieldLink RX12 134 "FairTablesModel" "thrown" "I", .fieldLink RX12 7 "FairTablesModel" "under" "J"] ++ wsX120)
def wsX12_limit : List Cond := .code yX12_limit cX12_limit 3 (some .long) :: ([.fieldLink RX12 20 "FairTablesModel" "numbers" "[J"] ++ wsX120)
def wsX12_auction_r1 : List Cond := [Cond.fieldLink RX12 134 "FairTablesModel" "thrown" "I", Cond.fieldLink RX12 137 "FairTablesModel" "status" "I", Cond.constant RX12 261 (1000000), Cond.constant RX12 201 (100000), Cond.fieldLink RX12 17 "FairTablesModel" "trayMany" "[I", Cond.fieldLink RX12 161 "FairTablesModel" "editors" "I", Cond.constantLong RX12 266 (1000000), Cond.fieldLink RX12 131 "FairTablesModel" "isOut" "[Z", Cond.constantLong RX12 268 (99), Cond.constantLong RX12 270 (100), Cond.fieldLink RX12 272 "FairTablesModel" "wasTopped" "Z", Cond.fieldLink RX12 276 "FairTablesModel" "wasSold" "Z", Cond.fieldLink RX12 279 "FairTablesModel" "rounds" "I", Cond.fieldLink RX12 282 "FairTablesModel" "price" "I", Cond.methodLink RX12 170 yX12_isEditor, Cond.instanceMethod yX12_isEditor, Cond.selects RX12 yX12_isEditor yX12_isEditor, Cond.initialized RX12, Cond.code yX12_isEditor cX12_isEditor 2 (some .boolean), Cond.methodLink RX12 164 yX12_refuse, Cond.instanceMethod yX12_refuse, Cond.selects RX12 yX12_refuse yX12_refuse, Cond.code yX12_refuse cX12_refuse 2 (some .int), Cond.methodLink RX12 262 yX12_limit]
def wsX12_auction_r2 : List Cond := [Cond.instanceMethod yX12_limit, Cond.selects RX12 yX12_limit yX12_limit, Cond.code yX12_limit cX12_limit 3 (some .long), Cond.fieldLink RX12 20 "FairTablesModel" "numbers" "[J"]
def wsX12_auction : List Cond := .code yX12_auction cX12_auction 12 (some .int) :: ((wsX12_auction_r1 ++ wsX12_auction_r2) ++ wsX120)
def wsX12_sold : List Cond := .code yX12_sold cX12_sold 2 (some .int) :: ([.fieldLink RX12 134 "FairTablesModel" "thrown" "I", .fieldLink RX12 137 "FairTablesModel" "status" "I", .fieldLink RX12 276 "FairTablesModel" "wasSold" "Z", .fieldLink RX12 282 "FairTablesModel" "price" "I", .fieldLink RX12 279 "FairTablesModel" "rounds" "I", .fieldLink RX12 272 "FairTablesModel" "wasTopped" "Z", .methodLink RX12 164 yX12_refuse, .instanceMethod yX12_refuse, .selects RX12 yX12_refuse yX12_refuse, .initialized RX12, .code yX12_refuse cX12_refuse 2 (some .int)] ++ wsX120)
def wsX12_offer_r1 : List Cond := [Cond.fieldLink RX12 134 "FairTablesModel" "thrown" "I", Cond.fieldLink RX12 137 "FairTablesModel" "status" "I", Cond.fieldLink RX12 285 "FairTablesModel" "now" "I", Cond.fieldLink RX12 288 "FairTablesModel" "offers" "I", Cond.fieldLink RX12 104 "FairTablesModel" "offerBook" "[I", Cond.fieldLink RX12 107 "FairTablesModel" "offerEditor" "[I", Cond.fieldLink RX12 110 "FairTablesModel" "offerLands" "[I", Cond.fieldLink RX12 113 "FairTablesModel" "offerTongues" "[I", Cond.fieldLink RX12 116 "FairTablesModel" "offerForms" "[I", Cond.fieldLink RX12 119 "FairTablesModel" "offerFrom" "[I", Cond.fieldLink RX12 122 "FairTablesModel" "offerTo" "[I", Cond.fieldLink RX12 125 "FairTablesModel" "offerEnds" "[I", Cond.fieldLink RX12 128 "FairTablesModel" "offerState" "[I", Cond.methodLink RX12 209 yX12_isBook, Cond.instanceMethod yX12_isBook, Cond.selects RX12 yX12_isBook yX12_isBook, Cond.initialized RX12, Cond.code yX12_isBook cX12_isBook 2 (some .boolean), Cond.fieldLink RX12 198 "FairTablesModel" "books" "I", Cond.methodLink RX12 170 yX12_isEditor, Cond.instanceMethod yX12_isEditor, Cond.selects RX12 yX12_isEditor yX12_isEditor, Cond.code yX12_isEditor cX12_isEditor 2 (some .boolean), Cond.fieldLink RX12 161 "FairTablesModel" "editors" "I"]
def wsX12_offer_r2 : List Cond := [Cond.methodLink RX12 164 yX12_refuse, Cond.instanceMethod yX12_refuse, Cond.selects RX12 yX12_refuse yX12_refuse, Cond.code yX12_refuse cX12_refuse 2 (some .int), Cond.methodLink RX12 230 yX12_areRights, Cond.static yX12_areRights, Cond.code yX12_areRights cX12_areRights 5 (some .boolean), Cond.methodLink RX12 202 yX12_areCells, Cond.static yX12_areCells, Cond.code yX12_areCells cX12_areCells 3 (some .boolean), Cond.methodLink RX12 206 yX12_isDay, Cond.static yX12_isDay, Cond.code yX12_isDay cX12_isDay 1 (some .boolean), Cond.methodLink RX12 251 yX12_isMinute, Cond.static yX12_isMinute, Cond.code yX12_isMinute cX12_isMinute 1 (some .boolean), Cond.constant RX12 201 (100000), Cond.methodLink RX12 257 yX12_mayBe, Cond.instanceMethod yX12_mayBe, Cond.selects RX12 yX12_mayBe yX12_mayBe, Cond.code yX12_mayBe cX12_mayBe 10 (some .boolean), Cond.fieldLink RX12 254 "FairTablesModel" "options" "I", Cond.fieldLink RX12 92 "FairTablesModel" "optionBook" "[I", Cond.fieldLink RX12 95 "FairTablesModel" "optionEditor" "[I"]
def wsX12_offer_r3 : List Cond := [Cond.fieldLink RX12 98 "FairTablesModel" "optionFrom" "[I", Cond.fieldLink RX12 101 "FairTablesModel" "optionTo" "[I", Cond.methodLink RX12 212 yX12_isOpenTo, Cond.instanceMethod yX12_isOpenTo, Cond.selects RX12 yX12_isOpenTo yX12_isOpenTo, Cond.code yX12_isOpenTo cX12_isOpenTo 3 (some .boolean), Cond.fieldLink RX12 62 "FairTablesModel" "isSecret" "[Z", Cond.fieldLink RX12 65 "FairTablesModel" "isListed" "[Z", Cond.methodLink RX12 234 yX12_clashes, Cond.instanceMethod yX12_clashes, Cond.selects RX12 yX12_clashes yX12_clashes, Cond.code yX12_clashes cX12_clashes 8 (some .boolean), Cond.fieldLink RX12 221 "FairTablesModel" "grants" "I", Cond.fieldLink RX12 68 "FairTablesModel" "grantBook" "[I", Cond.fieldLink RX12 74 "FairTablesModel" "grantLands" "[I", Cond.fieldLink RX12 77 "FairTablesModel" "grantTongues" "[I", Cond.fieldLink RX12 80 "FairTablesModel" "grantForms" "[I", Cond.fieldLink RX12 83 "FairTablesModel" "grantFrom" "[I", Cond.methodLink RX12 224 Lib.Math.max.name, Cond.static Lib.Math.max.name, Cond.initialized "java/lang/Math", Cond.code Lib.Math.max.name Lib.Math.max.code 2 (some .int), Cond.methodLink RX12 216 Lib.Math.min.name, Cond.static Lib.Math.min.name]
def wsX12_offer_r4 : List Cond := [Cond.code Lib.Math.min.name Lib.Math.min.code 2 (some .int), Cond.methodLink RX12 227 yX12_lastOf, Cond.instanceMethod yX12_lastOf, Cond.selects RX12 yX12_lastOf yX12_lastOf, Cond.code yX12_lastOf cX12_lastOf 2 (some .int), Cond.fieldLink RX12 89 "FairTablesModel" "grantEnd" "[I", Cond.fieldLink RX12 86 "FairTablesModel" "grantTo" "[I"]
def wsX12_offer : List Cond := .code yX12_offer cX12_offer 10 (some .int) :: ((wsX12_offer_r1 ++ (wsX12_offer_r2 ++ (wsX12_offer_r3 ++ wsX12_offer_r4))) ++ wsX120)
def wsX12_isOpen : List Cond := .code yX12_isOpen cX12_isOpen 3 (some .boolean) :: ([.fieldLink RX12 128 "FairTablesModel" "offerState" "[I", .fieldLink RX12 125 "FairTablesModel" "offerEnds" "[I"] ++ wsX120)
def wsX12_take_r1 : List Cond := [Cond.fieldLink RX12 134 "FairTablesModel" "thrown" "I", Cond.fieldLink RX12 137 "FairTablesModel" "status" "I", Cond.fieldLink RX12 288 "FairTablesModel" "offers" "I", Cond.fieldLink RX12 285 "FairTablesModel" "now" "I", Cond.fieldLink RX12 221 "FairTablesModel" "grants" "I", Cond.fieldLink RX12 104 "FairTablesModel" "offerBook" "[I", Cond.fieldLink RX12 107 "FairTablesModel" "offerEditor" "[I", Cond.fieldLink RX12 110 "FairTablesModel" "offerLands" "[I", Cond.fieldLink RX12 113 "FairTablesModel" "offerTongues" "[I", Cond.fieldLink RX12 116 "FairTablesModel" "offerForms" "[I", Cond.fieldLink RX12 119 "FairTablesModel" "offerFrom" "[I", Cond.fieldLink RX12 122 "FairTablesModel" "offerTo" "[I", Cond.fieldLink RX12 128 "FairTablesModel" "offerState" "[I", Cond.methodLink RX12 164 yX12_refuse, Cond.instanceMethod yX12_refuse, Cond.selects RX12 yX12_refuse yX12_refuse, Cond.initialized RX12, Cond.code yX12_refuse cX12_refuse 2 (some .int), Cond.methodLink RX12 251 yX12_isMinute, Cond.static yX12_isMinute, Cond.code yX12_isMinute cX12_isMinute 1 (some .boolean), Cond.constant RX12 201 (100000), Cond.methodLink RX12 291 yX12_isOpen, Cond.instanceMethod yX12_isOpen]
def wsX12_take_r2 : List Cond := [Cond.selects RX12 yX12_isOpen yX12_isOpen, Cond.code yX12_isOpen cX12_isOpen 3 (some .boolean), Cond.fieldLink RX12 125 "FairTablesModel" "offerEnds" "[I", Cond.methodLink RX12 257 yX12_mayBe, Cond.instanceMethod yX12_mayBe, Cond.selects RX12 yX12_mayBe yX12_mayBe, Cond.code yX12_mayBe cX12_mayBe 10 (some .boolean), Cond.fieldLink RX12 254 "FairTablesModel" "options" "I", Cond.fieldLink RX12 92 "FairTablesModel" "optionBook" "[I", Cond.fieldLink RX12 95 "FairTablesModel" "optionEditor" "[I", Cond.fieldLink RX12 98 "FairTablesModel" "optionFrom" "[I", Cond.fieldLink RX12 101 "FairTablesModel" "optionTo" "[I", Cond.methodLink RX12 212 yX12_isOpenTo, Cond.instanceMethod yX12_isOpenTo, Cond.selects RX12 yX12_isOpenTo yX12_isOpenTo, Cond.code yX12_isOpenTo cX12_isOpenTo 3 (some .boolean), Cond.fieldLink RX12 62 "FairTablesModel" "isSecret" "[Z", Cond.fieldLink RX12 65 "FairTablesModel" "isListed" "[Z", Cond.methodLink RX12 234 yX12_clashes, Cond.instanceMethod yX12_clashes, Cond.selects RX12 yX12_clashes yX12_clashes, Cond.code yX12_clashes cX12_clashes 8 (some .boolean), Cond.fieldLink RX12 68 "FairTablesModel" "grantBook" "[I", Cond.fieldLink RX12 74 "FairTablesModel" "grantLands" "[I"]
def wsX12_take_r3 : List Cond := [Cond.fieldLink RX12 77 "FairTablesModel" "grantTongues" "[I", Cond.fieldLink RX12 80 "FairTablesModel" "grantForms" "[I", Cond.fieldLink RX12 83 "FairTablesModel" "grantFrom" "[I", Cond.methodLink RX12 224 Lib.Math.max.name, Cond.static Lib.Math.max.name, Cond.initialized "java/lang/Math", Cond.code Lib.Math.max.name Lib.Math.max.code 2 (some .int), Cond.methodLink RX12 216 Lib.Math.min.name, Cond.static Lib.Math.min.name, Cond.code Lib.Math.min.name Lib.Math.min.code 2 (some .int), Cond.methodLink RX12 227 yX12_lastOf, Cond.instanceMethod yX12_lastOf, Cond.selects RX12 yX12_lastOf yX12_lastOf, Cond.code yX12_lastOf cX12_lastOf 2 (some .int), Cond.fieldLink RX12 89 "FairTablesModel" "grantEnd" "[I", Cond.fieldLink RX12 86 "FairTablesModel" "grantTo" "[I", Cond.methodLink RX12 238 yX12_grants, Cond.instanceMethod yX12_grants, Cond.selects RX12 yX12_grants yX12_grants, Cond.code yX12_grants cX12_grants 8 (some .int), Cond.fieldLink RX12 71 "FairTablesModel" "grantEditor" "[I"]
def wsX12_take : List Cond := .code yX12_take cX12_take 6 (some .int) :: ((wsX12_take_r1 ++ (wsX12_take_r2 ++ wsX12_take_r3)) ++ wsX120)
def wsX12_state : List Cond := .code yX12_state cX12_state 3 (some .int) :: ([.fieldLink RX12 134 "FairTablesModel" "thrown" "I", .fieldLink RX12 137 "FairTablesModel" "status" "I", .fieldLink RX12 288 "FairTablesModel" "offers" "I", .fieldLink RX12 285 "FairTablesModel" "now" "I", .fieldLink RX12 128 "FairTablesModel" "offerState" "[I", .fieldLink RX12 125 "FairTablesModel" "offerEnds" "[I", .methodLink RX12 164 yX12_refuse, .instanceMethod yX12_refuse, .selects RX12 yX12_refuse yX12_refuse, .initialized RX12, .code yX12_refuse cX12_refuse 2 (some .int), .methodLink RX12 251 yX12_isMinute, .static yX12_isMinute, .code yX12_isMinute cX12_isMinute 1 (some .boolean), .constant RX12 201 (100000)] ++ wsX120)
def wsJ9_max_7cf53 : List Cond := .code yJ9_max_7cf53 cJ9_max_7cf53 2 (some .int) :: ([])
def wsJ9_min_7cf53 : List Cond := .code yJ9_min_7cf53 cJ9_min_7cf53 2 (some .int) :: ([])
theorem dX0_init_0 : decode cX0_init 0 = .ok (.aload_n 0, 1) := by decide +kernel
theorem dX0_init_1 : decode cX0_init 1 = .ok (.invokespecial 3, 3) := by decide +kernel
theorem dX0_init_4 : decode cX0_init 4 = .ok (.aload_n 0, 1) := by decide +kernel
theorem dX0_init_5 : decode cX0_init 5 = .ok (.iconst 0, 1) := by decide +kernel
theorem dX0_init_6 : decode cX0_init 6 = .ok (.putfield 9, 3) := by decide +kernel
theorem dX0_init_9 : decode cX0_init 9 = .ok (.aload_n 0, 1) := by decide +kernel
theorem dX0_init_10 : decode cX0_init 10 = .ok (.iconst 0, 1) := by decide +kernel
theorem dX0_init_11 : decode cX0_init 11 = .ok (.putfield 15, 3) := by decide +kernel
theorem dX0_init_14 : decode cX0_init 14 = .ok (.aload_n 0, 1) := by decide +kernel
theorem dX0_init_15 : decode cX0_init 15 = .ok (.iload_n 2, 1) := by decide +kernel
theorem dX0_init_16 : decode cX0_init 16 = .ok (.putfield 19, 3) := by decide +kernel
theorem dX0_init_19 : decode cX0_init 19 = .ok (.aload_n 0, 1) := by decide +kernel
theorem dX0_init_20 : decode cX0_init 20 = .ok (.iload 5, 2) := by decide +kernel
theorem dX0_init_22 : decode cX0_init 22 = .ok (.putfield 22, 3) := by decide +kernel
theorem dX0_init_25 : decode cX0_init 25 = .ok (.aload_n 0, 1) := by decide +kernel
theorem dX0_init_26 : decode cX0_init 26 = .ok (.bipush 10, 2) := by decide +kernel
theorem dX0_init_28 : decode cX0_init 28 = .ok (.newarray .int, 2) := by decide +kernel
theorem dX0_init_30 : decode cX0_init 30 = .ok (.putfield 25, 3) := by decide +kernel
theorem dX0_init_33 : decode cX0_init 33 = .ok (.iconst 0, 1) := by decide +kernel
theorem dX0_init_34 : decode cX0_init 34 = .ok (.istore 6, 2) := by decide +kernel
theorem dX0_init_36 : decode cX0_init 36 = .ok (.iload 6, 2) := by decide +kernel
theorem dX0_init_38 : decode cX0_init 38 = .ok (.iload_n 2, 1) := by decide +kernel
theorem dX0_init_39 : decode cX0_init 39 = .ok (.if_icmp .ge 21, 3) := by decide +kernel
theorem dX0_init_42 : decode cX0_init 42 = .ok (.aload_n 0, 1) := by decide +kernel
theorem dX0_init_43 : decode cX0_init 43 = .ok (.getfield 25, 3) := by decide +kernel
theorem dX0_init_46 : decode cX0_init 46 = .ok (.iload 6, 2) := by decide +kernel
theorem dX0_init_48 : decode cX0_init 48 = .ok (.aload_n 1, 1) := by decide +kernel
theorem dX0_init_49 : decode cX0_init 49 = .ok (.iload 6, 2) := by decide +kernel
theorem dX0_init_51 : decode cX0_init 51 = .ok (.laload, 1) := by decide +kernel
theorem dX0_init_52 : decode cX0_init 52 = .ok (.l2i, 1) := by decide +kernel
theorem dX0_init_53 : decode cX0_init 53 = .ok (.iastore, 1) := by decide +kernel
theorem dX0_init_54 : decode cX0_init 54 = .ok (.iinc 6 1, 3) := by decide +kernel
theorem dX0_init_57 : decode cX0_init 57 = .ok (.goto (-21), 3) := by decide +kernel
theorem dX0_init_60 : decode cX0_init 60 = .ok (.aload_n 0, 1) := by decide +kernel
theorem dX0_init_61 : decode cX0_init 61 = .ok (.iload 4, 2) := by decide +kernel
theorem dX0_init_63 : decode cX0_init 63 = .ok (.putfield 29, 3) := by decide +kernel
theorem dX0_init_66 : decode cX0_init 66 = .ok (.aload_n 0, 1) := by decide +kernel
theorem dX0_init_67 : decode cX0_init 67 = .ok (.iload_n 3, 1) := by decide +kernel
theorem dX0_init_68 : decode cX0_init 68 = .ok (.putfield 32, 3) := by decide +kernel
theorem dX0_init_71 : decode cX0_init 71 = .ok (.aload_n 0, 1) := by decide +kernel
theorem dX0_init_72 : decode cX0_init 72 = .ok (.iload 4, 2) := by decide +kernel
theorem dX0_init_74 : decode cX0_init 74 = .ok (.putfield 35, 3) := by decide +kernel
theorem dX0_init_77 : decode cX0_init 77 = .ok (.return_, 1) := by decide +kernel
set_option maxRecDepth 20000 in
theorem ggX0_playRounds_X0_skipFullRounds : GoodIn wsX0_playRounds wsX0_skipFullRounds := goodIn_r _ [6, 1, 7, 8, 9, 10, 11, 12, 13, 14, 15, 16, 17, 18, 19, 5, 20, 21, 26, 27, 28, 29, 30, 31, 32, 33] (by decide +kernel) (by decide +kernel)
set_option maxRecDepth 20000 in
theorem gX0_playRounds_X0_skipFullRounds : GoodIn wsX0_playRounds (wsV RX0 39 RX0 yX0_skipFullRounds wsX0_skipFullRounds) := goodIn_app (goodIn_of _ (by decide +kernel)) ggX0_playRounds_X0_skipFullRounds
set_option maxRecDepth 20000 in
theorem ggX0_playRounds_X0_playRound : GoodIn wsX0_playRounds wsX0_playRound := goodIn_r _ [25, 16, 7, 14, 15, 13, 17, 18, 19, 5, 20, 21, 8, 26, 27, 28, 29, 30, 31, 32, 33] (by decide +kernel) (by decide +kernel)
set_option maxRecDepth 20000 in
theorem gX0_playRounds_X0_playRound : GoodIn wsX0_playRounds (wsV RX0 42 RX0 yX0_playRound wsX0_playRound) := goodIn_app (goodIn_of _ (by decide +kernel)) ggX0_playRounds_X0_playRound
theorem dX0_playRounds_0 : decode cX0_playRounds 0 = .ok (.iconst 1, 1) := by decide +kernel
theorem dX0_playRounds_1 : decode cX0_playRounds 1 = .ok (.istore_n 1, 1) := by decide +kernel
theorem dX0_playRounds_2 : decode cX0_playRounds 2 = .ok (.iconst 0, 1) := by decide +kernel
theorem dX0_playRounds_3 : decode cX0_playRounds 3 = .ok (.istore_n 2, 1) := by decide +kernel
theorem dX0_playRounds_4 : decode cX0_playRounds 4 = .ok (.iload_n 1, 1) := by decide +kernel
theorem dX0_playRounds_5 : decode cX0_playRounds 5 = .ok (.ifCond .eq 24, 3) := by decide +kernel
theorem dX0_playRounds_8 : decode cX0_playRounds 8 = .ok (.iload_n 2, 1) := by decide +kernel
theorem dX0_playRounds_9 : decode cX0_playRounds 9 = .ok (.ldc 38, 2) := by decide +kernel
theorem dX0_playRounds_11 : decode cX0_playRounds 11 = .ok (.if_icmp .ge 18, 3) := by decide +kernel
theorem dX0_playRounds_14 : decode cX0_playRounds 14 = .ok (.aload_n 0, 1) := by decide +kernel
theorem dX0_playRounds_15 : decode cX0_playRounds 15 = .ok (.invokevirtual 39, 3) := by decide +kernel
theorem dX0_playRounds_18 : decode cX0_playRounds 18 = .ok (.aload_n 0, 1) := by decide +kernel
theorem dX0_playRounds_19 : decode cX0_playRounds 19 = .ok (.invokevirtual 42, 3) := by decide +kernel
theorem dX0_playRounds_22 : decode cX0_playRounds 22 = .ok (.istore_n 1, 1) := by decide +kernel
theorem dX0_playRounds_23 : decode cX0_playRounds 23 = .ok (.iinc 2 1, 3) := by decide +kernel
theorem dX0_playRounds_26 : decode cX0_playRounds 26 = .ok (.goto (-22), 3) := by decide +kernel
theorem dX0_playRounds_29 : decode cX0_playRounds 29 = .ok (.return_, 1) := by decide +kernel
set_option maxRecDepth 20000 in
theorem ggX0_playRound_X0_goesHigher : GoodIn wsX0_playRound wsX0_goesHigher := goodIn_r _ [10, 11, 12, 4, 5, 13, 14, 15, 16, 17, 18, 19, 20] (by decide +kernel) (by decide +kernel)
set_option maxRecDepth 20000 in
theorem gX0_playRound_X0_goesHigher : GoodIn wsX0_playRound (wsV RX0 46 RX0 yX0_goesHigher wsX0_goesHigher) := goodIn_app (goodIn_of _ (by decide +kernel)) ggX0_playRound_X0_goesHigher
theorem dX0_playRound_0 : decode cX0_playRound 0 = .ok (.iconst 0, 1) := by decide +kernel
theorem dX0_playRound_1 : decode cX0_playRound 1 = .ok (.istore_n 1, 1) := by decide +kernel
theorem dX0_playRound_2 : decode cX0_playRound 2 = .ok (.aload_n 0, 1) := by decide +kernel
theorem dX0_playRound_3 : decode cX0_playRound 3 = .ok (.dup, 1) := by decide +kernel
theorem dX0_playRound_4 : decode cX0_playRound 4 = .ok (.getfield 9, 3) := by decide +kernel
theorem dX0_playRound_7 : decode cX0_playRound 7 = .ok (.iconst 1, 1) := by decide +kernel
theorem dX0_playRound_8 : decode cX0_playRound 8 = .ok (.iadd, 1) := by decide +kernel
theorem dX0_playRound_9 : decode cX0_playRound 9 = .ok (.putfield 9, 3) := by decide +kernel
theorem dX0_playRound_12 : decode cX0_playRound 12 = .ok (.iconst 0, 1) := by decide +kernel
theorem dX0_playRound_13 : decode cX0_playRound 13 = .ok (.istore_n 2, 1) := by decide +kernel
theorem dX0_playRound_14 : decode cX0_playRound 14 = .ok (.iload_n 2, 1) := by decide +kernel
theorem dX0_playRound_15 : decode cX0_playRound 15 = .ok (.aload_n 0, 1) := by decide +kernel
theorem dX0_playRound_16 : decode cX0_playRound 16 = .ok (.getfield 19, 3) := by decide +kernel
theorem dX0_playRound_19 : decode cX0_playRound 19 = .ok (.if_icmp .ge 45, 3) := by decide +kernel
theorem dX0_playRound_22 : decode cX0_playRound 22 = .ok (.iload_n 2, 1) := by decide +kernel
theorem dX0_playRound_23 : decode cX0_playRound 23 = .ok (.aload_n 0, 1) := by decide +kernel
theorem dX0_playRound_24 : decode cX0_playRound 24 = .ok (.getfield 35, 3) := by decide +kernel
theorem dX0_playRound_27 : decode cX0_playRound 27 = .ok (.if_icmp .eq 31, 3) := by decide +kernel
theorem dX0_playRound_30 : decode cX0_playRound 30 = .ok (.aload_n 0, 1) := by decide +kernel
theorem dX0_playRound_31 : decode cX0_playRound 31 = .ok (.iload_n 2, 1) := by decide +kernel
theorem dX0_playRound_32 : decode cX0_playRound 32 = .ok (.invokevirtual 46, 3) := by decide +kernel
theorem dX0_playRound_35 : decode cX0_playRound 35 = .ok (.ifCond .eq 23, 3) := by decide +kernel
theorem dX0_playRound_38 : decode cX0_playRound 38 = .ok (.aload_n 0, 1) := by decide +kernel
theorem dX0_playRound_39 : decode cX0_playRound 39 = .ok (.dup, 1) := by decide +kernel
theorem dX0_playRound_40 : decode cX0_playRound 40 = .ok (.getfield 32, 3) := by decide +kernel
theorem dX0_playRound_43 : decode cX0_playRound 43 = .ok (.aload_n 0, 1) := by decide +kernel
theorem dX0_playRound_44 : decode cX0_playRound 44 = .ok (.getfield 22, 3) := by decide +kernel
theorem dX0_playRound_47 : decode cX0_playRound 47 = .ok (.iadd, 1) := by decide +kernel
theorem dX0_playRound_48 : decode cX0_playRound 48 = .ok (.putfield 32, 3) := by decide +kernel
theorem dX0_playRound_51 : decode cX0_playRound 51 = .ok (.aload_n 0, 1) := by decide +kernel
theorem dX0_playRound_52 : decode cX0_playRound 52 = .ok (.iload_n 2, 1) := by decide +kernel
theorem dX0_playRound_53 : decode cX0_playRound 53 = .ok (.putfield 35, 3) := by decide +kernel
theorem dX0_playRound_56 : decode cX0_playRound 56 = .ok (.iconst 1, 1) := by decide +kernel
theorem dX0_playRound_57 : decode cX0_playRound 57 = .ok (.istore_n 1, 1) := by decide +kernel
theorem dX0_playRound_58 : decode cX0_playRound 58 = .ok (.iinc 2 1, 3) := by decide +kernel
theorem dX0_playRound_61 : decode cX0_playRound 61 = .ok (.goto (-47), 3) := by decide +kernel
theorem dX0_playRound_64 : decode cX0_playRound 64 = .ok (.iload_n 1, 1) := by decide +kernel
theorem dX0_playRound_65 : decode cX0_playRound 65 = .ok (.ireturn, 1) := by decide +kernel
theorem dX0_goesHigher_0 : decode cX0_goesHigher 0 = .ok (.iload_n 1, 1) := by decide +kernel
theorem dX0_goesHigher_1 : decode cX0_goesHigher 1 = .ok (.aload_n 0, 1) := by decide +kernel
theorem dX0_goesHigher_2 : decode cX0_goesHigher 2 = .ok (.getfield 29, 3) := by decide +kernel
theorem dX0_goesHigher_5 : decode cX0_goesHigher 5 = .ok (.if_icmp .eq 25, 3) := by decide +kernel
theorem dX0_goesHigher_8 : decode cX0_goesHigher 8 = .ok (.aload_n 0, 1) := by decide +kernel
theorem dX0_goesHigher_9 : decode cX0_goesHigher 9 = .ok (.getfield 25, 3) := by decide +kernel
theorem dX0_goesHigher_12 : decode cX0_goesHigher 12 = .ok (.iload_n 1, 1) := by decide +kernel
theorem dX0_goesHigher_13 : decode cX0_goesHigher 13 = .ok (.iaload, 1) := by decide +kernel
theorem dX0_goesHigher_14 : decode cX0_goesHigher 14 = .ok (.aload_n 0, 1) := by decide +kernel
theorem dX0_goesHigher_15 : decode cX0_goesHigher 15 = .ok (.getfield 32, 3) := by decide +kernel
theorem dX0_goesHigher_18 : decode cX0_goesHigher 18 = .ok (.aload_n 0, 1) := by decide +kernel
theorem dX0_goesHigher_19 : decode cX0_goesHigher 19 = .ok (.getfield 22, 3) := by decide +kernel
theorem dX0_goesHigher_22 : decode cX0_goesHigher 22 = .ok (.iadd, 1) := by decide +kernel
theorem dX0_goesHigher_23 : decode cX0_goesHigher 23 = .ok (.if_icmp .lt 7, 3) := by decide +kernel
theorem dX0_goesHigher_26 : decode cX0_goesHigher 26 = .ok (.iconst 1, 1) := by decide +kernel
theorem dX0_goesHigher_27 : decode cX0_goesHigher 27 = .ok (.goto 4, 3) := by decide +kernel
theorem dX0_goesHigher_30 : decode cX0_goesHigher 30 = .ok (.iconst 0, 1) := by decide +kernel
theorem dX0_goesHigher_31 : decode cX0_goesHigher 31 = .ok (.ireturn, 1) := by decide +kernel
set_option maxRecDepth 20000 in
theorem ggX0_skipFullRounds_X0_goesHigher : GoodIn wsX0_skipFullRounds wsX0_goesHigher := goodIn_r _ [16, 17, 3, 10, 8, 18, 19, 20, 21, 22, 23, 24, 25] (by decide +kernel) (by decide +kernel)
set_option maxRecDepth 20000 in
theorem gX0_skipFullRounds_X0_goesHigher : GoodIn wsX0_skipFullRounds (wsV RX0 46 RX0 yX0_goesHigher wsX0_goesHigher) := goodIn_app (goodIn_of _ (by decide +kernel)) ggX0_skipFullRounds_X0_goesHigher
theorem dX0_skipFullRounds_0 : decode cX0_skipFullRounds 0 = .ok (.iconst 0, 1) := by decide +kernel
theorem dX0_skipFullRounds_1 : decode cX0_skipFullRounds 1 = .ok (.istore_n 1, 1) := by decide +kernel
theorem dX0_skipFullRounds_2 : decode cX0_skipFullRounds 2 = .ok (.iconst (-1), 1) := by decide +kernel
theorem dX0_skipFullRounds_3 : decode cX0_skipFullRounds 3 = .ok (.istore_n 2, 1) := by decide +kernel
theorem dX0_skipFullRounds_4 : decode cX0_skipFullRounds 4 = .ok (.ldc 38, 2) := by decide +kernel
theorem dX0_skipFullRounds_6 : decode cX0_skipFullRounds 6 = .ok (.istore_n 3, 1) := by decide +kernel
theorem dX0_skipFullRounds_7 : decode cX0_skipFullRounds 7 = .ok (.iconst 0, 1) := by decide +kernel
theorem dX0_skipFullRounds_8 : decode cX0_skipFullRounds 8 = .ok (.istore 4, 2) := by decide +kernel
theorem dX0_skipFullRounds_10 : decode cX0_skipFullRounds 10 = .ok (.iload 4, 2) := by decide +kernel
theorem dX0_skipFullRounds_12 : decode cX0_skipFullRounds 12 = .ok (.aload_n 0, 1) := by decide +kernel
theorem dX0_skipFullRounds_13 : decode cX0_skipFullRounds 13 = .ok (.getfield 19, 3) := by decide +kernel
theorem dX0_skipFullRounds_16 : decode cX0_skipFullRounds 16 = .ok (.if_icmp .ge 36, 3) := by decide +kernel
theorem dX0_skipFullRounds_19 : decode cX0_skipFullRounds 19 = .ok (.aload_n 0, 1) := by decide +kernel
theorem dX0_skipFullRounds_20 : decode cX0_skipFullRounds 20 = .ok (.iload 4, 2) := by decide +kernel
theorem dX0_skipFullRounds_22 : decode cX0_skipFullRounds 22 = .ok (.invokevirtual 46, 3) := by decide +kernel
theorem dX0_skipFullRounds_25 : decode cX0_skipFullRounds 25 = .ok (.ifCond .eq 21, 3) := by decide +kernel
theorem dX0_skipFullRounds_28 : decode cX0_skipFullRounds 28 = .ok (.iinc 1 1, 3) := by decide +kernel
theorem dX0_skipFullRounds_31 : decode cX0_skipFullRounds 31 = .ok (.iload 4, 2) := by decide +kernel
theorem dX0_skipFullRounds_33 : decode cX0_skipFullRounds 33 = .ok (.istore_n 2, 1) := by decide +kernel
theorem dX0_skipFullRounds_34 : decode cX0_skipFullRounds 34 = .ok (.iload_n 3, 1) := by decide +kernel
theorem dX0_skipFullRounds_35 : decode cX0_skipFullRounds 35 = .ok (.aload_n 0, 1) := by decide +kernel
theorem dX0_skipFullRounds_36 : decode cX0_skipFullRounds 36 = .ok (.getfield 25, 3) := by decide +kernel
theorem dX0_skipFullRounds_39 : decode cX0_skipFullRounds 39 = .ok (.iload 4, 2) := by decide +kernel
theorem dX0_skipFullRounds_41 : decode cX0_skipFullRounds 41 = .ok (.iaload, 1) := by decide +kernel
theorem dX0_skipFullRounds_42 : decode cX0_skipFullRounds 42 = .ok (.invokestatic 50, 3) := by decide +kernel
theorem dX0_skipFullRounds_45 : decode cX0_skipFullRounds 45 = .ok (.istore_n 3, 1) := by decide +kernel
theorem dX0_skipFullRounds_46 : decode cX0_skipFullRounds 46 = .ok (.iinc 4 1, 3) := by decide +kernel
theorem dX0_skipFullRounds_49 : decode cX0_skipFullRounds 49 = .ok (.goto (-39), 3) := by decide +kernel
theorem dX0_skipFullRounds_52 : decode cX0_skipFullRounds 52 = .ok (.iload_n 1, 1) := by decide +kernel
theorem dX0_skipFullRounds_53 : decode cX0_skipFullRounds 53 = .ok (.aload_n 0, 1) := by decide +kernel
theorem dX0_skipFullRounds_54 : decode cX0_skipFullRounds 54 = .ok (.getfield 22, 3) := by decide +kernel
theorem dX0_skipFullRounds_57 : decode cX0_skipFullRounds 57 = .ok (.imul, 1) := by decide +kernel
theorem dX0_skipFullRounds_58 : decode cX0_skipFullRounds 58 = .ok (.istore 4, 2) := by decide +kernel
theorem dX0_skipFullRounds_60 : decode cX0_skipFullRounds 60 = .ok (.iload_n 1, 1) := by decide +kernel
theorem dX0_skipFullRounds_61 : decode cX0_skipFullRounds 61 = .ok (.iconst 2, 1) := by decide +kernel
theorem dX0_skipFullRounds_62 : decode cX0_skipFullRounds 62 = .ok (.if_icmp .lt 17, 3) := by decide +kernel
theorem dX0_skipFullRounds_65 : decode cX0_skipFullRounds 65 = .ok (.iload_n 2, 1) := by decide +kernel
theorem dX0_skipFullRounds_66 : decode cX0_skipFullRounds 66 = .ok (.aload_n 0, 1) := by decide +kernel
theorem dX0_skipFullRounds_67 : decode cX0_skipFullRounds 67 = .ok (.getfield 35, 3) := by decide +kernel
theorem dX0_skipFullRounds_70 : decode cX0_skipFullRounds 70 = .ok (.if_icmp .ne 9, 3) := by decide +kernel
theorem dX0_skipFullRounds_73 : decode cX0_skipFullRounds 73 = .ok (.iload 4, 2) := by decide +kernel
theorem dX0_skipFullRounds_75 : decode cX0_skipFullRounds 75 = .ok (.iconst 1, 1) := by decide +kernel
theorem dX0_skipFullRounds_76 : decode cX0_skipFullRounds 76 = .ok (.if_icmp .ge 4, 3) := by decide +kernel
theorem dX0_skipFullRounds_79 : decode cX0_skipFullRounds 79 = .ok (.return_, 1) := by decide +kernel
theorem dX0_skipFullRounds_80 : decode cX0_skipFullRounds 80 = .ok (.iload_n 3, 1) := by decide +kernel
theorem dX0_skipFullRounds_81 : decode cX0_skipFullRounds 81 = .ok (.aload_n 0, 1) := by decide +kernel
theorem dX0_skipFullRounds_82 : decode cX0_skipFullRounds 82 = .ok (.getfield 32, 3) := by decide +kernel
theorem dX0_skipFullRounds_85 : decode cX0_skipFullRounds 85 = .ok (.isub, 1) := by decide +kernel
theorem dX0_skipFullRounds_86 : decode cX0_skipFullRounds 86 = .ok (.iload 4, 2) := by decide +kernel
theorem dX0_skipFullRounds_88 : decode cX0_skipFullRounds 88 = .ok (.idiv, 1) := by decide +kernel
theorem dX0_skipFullRounds_89 : decode cX0_skipFullRounds 89 = .ok (.istore 5, 2) := by decide +kernel
theorem dX0_skipFullRounds_91 : decode cX0_skipFullRounds 91 = .ok (.aload_n 0, 1) := by decide +kernel
theorem dX0_skipFullRounds_92 : decode cX0_skipFullRounds 92 = .ok (.dup, 1) := by decide +kernel
theorem dX0_skipFullRounds_93 : decode cX0_skipFullRounds 93 = .ok (.getfield 9, 3) := by decide +kernel
theorem dX0_skipFullRounds_96 : decode cX0_skipFullRounds 96 = .ok (.iload 5, 2) := by decide +kernel
theorem dX0_skipFullRounds_98 : decode cX0_skipFullRounds 98 = .ok (.iadd, 1) := by decide +kernel
theorem dX0_skipFullRounds_99 : decode cX0_skipFullRounds 99 = .ok (.putfield 9, 3) := by decide +kernel
theorem dX0_skipFullRounds_102 : decode cX0_skipFullRounds 102 = .ok (.aload_n 0, 1) := by decide +kernel
theorem dX0_skipFullRounds_103 : decode cX0_skipFullRounds 103 = .ok (.dup, 1) := by decide +kernel
theorem dX0_skipFullRounds_104 : decode cX0_skipFullRounds 104 = .ok (.getfield 32, 3) := by decide +kernel
theorem dX0_skipFullRounds_107 : decode cX0_skipFullRounds 107 = .ok (.iload 5, 2) := by decide +kernel
theorem dX0_skipFullRounds_109 : decode cX0_skipFullRounds 109 = .ok (.iload 4, 2) := by decide +kernel
theorem dX0_skipFullRounds_111 : decode cX0_skipFullRounds 111 = .ok (.imul, 1) := by decide +kernel
theorem dX0_skipFullRounds_112 : decode cX0_skipFullRounds 112 = .ok (.iadd, 1) := by decide +kernel
theorem dX0_skipFullRounds_113 : decode cX0_skipFullRounds 113 = .ok (.putfield 32, 3) := by decide +kernel
theorem dX0_skipFullRounds_116 : decode cX0_skipFullRounds 116 = .ok (.return_, 1) := by decide +kernel
theorem dX0_topWith_0 : decode cX0_topWith 0 = .ok (.aload_n 0, 1) := by decide +kernel
theorem dX0_topWith_1 : decode cX0_topWith 1 = .ok (.getfield 29, 3) := by decide +kernel
theorem dX0_topWith_4 : decode cX0_topWith 4 = .ok (.iconst (-1), 1) := by decide +kernel
theorem dX0_topWith_5 : decode cX0_topWith 5 = .ok (.if_icmp .eq 14, 3) := by decide +kernel
theorem dX0_topWith_8 : decode cX0_topWith 8 = .ok (.aload_n 0, 1) := by decide +kernel
theorem dX0_topWith_9 : decode cX0_topWith 9 = .ok (.getfield 35, 3) := by decide +kernel
theorem dX0_topWith_12 : decode cX0_topWith 12 = .ok (.aload_n 0, 1) := by decide +kernel
theorem dX0_topWith_13 : decode cX0_topWith 13 = .ok (.getfield 29, 3) := by decide +kernel
theorem dX0_topWith_16 : decode cX0_topWith 16 = .ok (.if_icmp .ne 4, 3) := by decide +kernel
theorem dX0_topWith_19 : decode cX0_topWith 19 = .ok (.return_, 1) := by decide +kernel
theorem dX0_topWith_20 : decode cX0_topWith 20 = .ok (.aload_n 0, 1) := by decide +kernel
theorem dX0_topWith_21 : decode cX0_topWith 21 = .ok (.getfield 32, 3) := by decide +kernel
theorem dX0_topWith_24 : decode cX0_topWith 24 = .ok (.aload_n 0, 1) := by decide +kernel
theorem dX0_topWith_25 : decode cX0_topWith 25 = .ok (.getfield 32, 3) := by decide +kernel
theorem dX0_topWith_28 : decode cX0_topWith 28 = .ok (.iload_n 1, 1) := by decide +kernel
theorem dX0_topWith_29 : decode cX0_topWith 29 = .ok (.imul, 1) := by decide +kernel
theorem dX0_topWith_30 : decode cX0_topWith 30 = .ok (.bipush 100, 2) := by decide +kernel
theorem dX0_topWith_32 : decode cX0_topWith 32 = .ok (.iadd, 1) := by decide +kernel
theorem dX0_topWith_33 : decode cX0_topWith 33 = .ok (.iconst 1, 1) := by decide +kernel
theorem dX0_topWith_34 : decode cX0_topWith 34 = .ok (.isub, 1) := by decide +kernel
theorem dX0_topWith_35 : decode cX0_topWith 35 = .ok (.bipush 100, 2) := by decide +kernel
theorem dX0_topWith_37 : decode cX0_topWith 37 = .ok (.idiv, 1) := by decide +kernel
theorem dX0_topWith_38 : decode cX0_topWith 38 = .ok (.iadd, 1) := by decide +kernel
theorem dX0_topWith_39 : decode cX0_topWith 39 = .ok (.istore_n 2, 1) := by decide +kernel
theorem dX0_topWith_40 : decode cX0_topWith 40 = .ok (.aload_n 0, 1) := by decide +kernel
theorem dX0_topWith_41 : decode cX0_topWith 41 = .ok (.getfield 25, 3) := by decide +kernel
theorem dX0_topWith_44 : decode cX0_topWith 44 = .ok (.aload_n 0, 1) := by decide +kernel
theorem dX0_topWith_45 : decode cX0_topWith 45 = .ok (.getfield 29, 3) := by decide +kernel
theorem dX0_topWith_48 : decode cX0_topWith 48 = .ok (.iaload, 1) := by decide +kernel
theorem dX0_topWith_49 : decode cX0_topWith 49 = .ok (.iload_n 2, 1) := by decide +kernel
theorem dX0_topWith_50 : decode cX0_topWith 50 = .ok (.if_icmp .lt 21, 3) := by decide +kernel
theorem dX0_topWith_53 : decode cX0_topWith 53 = .ok (.aload_n 0, 1) := by decide +kernel
theorem dX0_topWith_54 : decode cX0_topWith 54 = .ok (.iload_n 2, 1) := by decide +kernel
theorem dX0_topWith_55 : decode cX0_topWith 55 = .ok (.putfield 32, 3) := by decide +kernel
theorem dX0_topWith_58 : decode cX0_topWith 58 = .ok (.aload_n 0, 1) := by decide +kernel
theorem dX0_topWith_59 : decode cX0_topWith 59 = .ok (.aload_n 0, 1) := by decide +kernel
theorem dX0_topWith_60 : decode cX0_topWith 60 = .ok (.getfield 29, 3) := by decide +kernel
theorem dX0_topWith_63 : decode cX0_topWith 63 = .ok (.putfield 35, 3) := by decide +kernel
theorem dX0_topWith_66 : decode cX0_topWith 66 = .ok (.aload_n 0, 1) := by decide +kernel
theorem dX0_topWith_67 : decode cX0_topWith 67 = .ok (.iconst 1, 1) := by decide +kernel
theorem dX0_topWith_68 : decode cX0_topWith 68 = .ok (.putfield 15, 3) := by decide +kernel
theorem dX0_topWith_71 : decode cX0_topWith 71 = .ok (.return_, 1) := by decide +kernel
theorem dX1_init_0 : decode cX1_init 0 = .ok (.aload_n 0, 1) := by decide +kernel
theorem dX1_init_1 : decode cX1_init 1 = .ok (.invokespecial 5, 3) := by decide +kernel
theorem dX1_init_4 : decode cX1_init 4 = .ok (.aload_n 0, 1) := by decide +kernel
theorem dX1_init_5 : decode cX1_init 5 = .ok (.iconst 4, 1) := by decide +kernel
theorem dX1_init_6 : decode cX1_init 6 = .ok (.putfield 11, 3) := by decide +kernel
theorem dX1_init_9 : decode cX1_init 9 = .ok (.aload_n 0, 1) := by decide +kernel
theorem dX1_init_10 : decode cX1_init 10 = .ok (.bipush 80, 2) := by decide +kernel
theorem dX1_init_12 : decode cX1_init 12 = .ok (.newarray .boolean, 2) := by decide +kernel
theorem dX1_init_14 : decode cX1_init 14 = .ok (.putfield 15, 3) := by decide +kernel
theorem dX1_init_17 : decode cX1_init 17 = .ok (.aload_n 0, 1) := by decide +kernel
theorem dX1_init_18 : decode cX1_init 18 = .ok (.bipush 80, 2) := by decide +kernel
theorem dX1_init_20 : decode cX1_init 20 = .ok (.newarray .int, 2) := by decide +kernel
theorem dX1_init_22 : decode cX1_init 22 = .ok (.putfield 19, 3) := by decide +kernel
theorem dX1_init_25 : decode cX1_init 25 = .ok (.aload_n 0, 1) := by decide +kernel
theorem dX1_init_26 : decode cX1_init 26 = .ok (.bipush 18, 2) := by decide +kernel
theorem dX1_init_28 : decode cX1_init 28 = .ok (.newarray .int, 2) := by decide +kernel
theorem dX1_init_30 : decode cX1_init 30 = .ok (.putfield 23, 3) := by decide +kernel
theorem dX1_init_33 : decode cX1_init 33 = .ok (.aload_n 0, 1) := by decide +kernel
theorem dX1_init_34 : decode cX1_init 34 = .ok (.bipush 19, 2) := by decide +kernel
theorem dX1_init_36 : decode cX1_init 36 = .ok (.newarray .long, 2) := by decide +kernel
theorem dX1_init_38 : decode cX1_init 38 = .ok (.putfield 26, 3) := by decide +kernel
theorem dX1_init_41 : decode cX1_init 41 = .ok (.aload_n 0, 1) := by decide +kernel
theorem dX1_init_42 : decode cX1_init 42 = .ok (.bipush 19, 2) := by decide +kernel
theorem dX1_init_44 : decode cX1_init 44 = .ok (.newarray .long, 2) := by decide +kernel
theorem dX1_init_46 : decode cX1_init 46 = .ok (.putfield 30, 3) := by decide +kernel
theorem dX1_init_49 : decode cX1_init 49 = .ok (.aload_n 0, 1) := by decide +kernel
theorem dX1_init_50 : decode cX1_init 50 = .ok (.bipush 19, 2) := by decide +kernel
theorem dX1_init_52 : decode cX1_init 52 = .ok (.newarray .int, 2) := by decide +kernel
theorem dX1_init_54 : decode cX1_init 54 = .ok (.putfield 33, 3) := by decide +kernel
theorem dX1_init_57 : decode cX1_init 57 = .ok (.aload_n 0, 1) := by decide +kernel
theorem dX1_init_58 : decode cX1_init 58 = .ok (.bipush 19, 2) := by decide +kernel
theorem dX1_init_60 : decode cX1_init 60 = .ok (.newarray .boolean, 2) := by decide +kernel
theorem dX1_init_62 : decode cX1_init 62 = .ok (.putfield 36, 3) := by decide +kernel
theorem dX1_init_65 : decode cX1_init 65 = .ok (.return_, 1) := by decide +kernel
set_option maxRecDepth 20000 in
theorem ggX1_startAnew_J7_fill_53178 : GoodIn wsX1_startAnew wsJ7_fill_53178 := goodIn_r _ [8] (by decide +kernel) (by decide +kernel)
set_option maxRecDepth 20000 in
theorem gX1_startAnew_J7_fill_53178 : GoodIn wsX1_startAnew (va_wsS RX1 39 yJ7_fill_53178 wsJ7_fill_53178) := goodIn_app (goodIn_of _ (by decide +kernel)) ggX1_startAnew_J7_fill_53178
theorem dX1_startAnew_0 : decode cX1_startAnew 0 = .ok (.aload_n 0, 1) := by decide +kernel
theorem dX1_startAnew_1 : decode cX1_startAnew 1 = .ok (.iload_n 1, 1) := by decide +kernel
theorem dX1_startAnew_2 : decode cX1_startAnew 2 = .ok (.putfield 11, 3) := by decide +kernel
theorem dX1_startAnew_5 : decode cX1_startAnew 5 = .ok (.aload_n 0, 1) := by decide +kernel
theorem dX1_startAnew_6 : decode cX1_startAnew 6 = .ok (.getfield 19, 3) := by decide +kernel
theorem dX1_startAnew_9 : decode cX1_startAnew 9 = .ok (.iconst 0, 1) := by decide +kernel
theorem dX1_startAnew_10 : decode cX1_startAnew 10 = .ok (.invokestatic 39, 3) := by decide +kernel
theorem dX1_startAnew_13 : decode cX1_startAnew 13 = .ok (.aload_n 0, 1) := by decide +kernel
theorem dX1_startAnew_14 : decode cX1_startAnew 14 = .ok (.getfield 23, 3) := by decide +kernel
theorem dX1_startAnew_17 : decode cX1_startAnew 17 = .ok (.iconst 0, 1) := by decide +kernel
theorem dX1_startAnew_18 : decode cX1_startAnew 18 = .ok (.invokestatic 39, 3) := by decide +kernel
theorem dX1_startAnew_21 : decode cX1_startAnew 21 = .ok (.iconst 0, 1) := by decide +kernel
theorem dX1_startAnew_22 : decode cX1_startAnew 22 = .ok (.istore_n 2, 1) := by decide +kernel
theorem dX1_startAnew_23 : decode cX1_startAnew 23 = .ok (.iload_n 2, 1) := by decide +kernel
theorem dX1_startAnew_24 : decode cX1_startAnew 24 = .ok (.bipush 80, 2) := by decide +kernel
theorem dX1_startAnew_26 : decode cX1_startAnew 26 = .ok (.if_icmp .ge 16, 3) := by decide +kernel
theorem dX1_startAnew_29 : decode cX1_startAnew 29 = .ok (.aload_n 0, 1) := by decide +kernel
theorem dX1_startAnew_30 : decode cX1_startAnew 30 = .ok (.getfield 15, 3) := by decide +kernel
theorem dX1_startAnew_33 : decode cX1_startAnew 33 = .ok (.iload_n 2, 1) := by decide +kernel
theorem dX1_startAnew_34 : decode cX1_startAnew 34 = .ok (.iconst 0, 1) := by decide +kernel
theorem dX1_startAnew_35 : decode cX1_startAnew 35 = .ok (.bastore, 1) := by decide +kernel
theorem dX1_startAnew_36 : decode cX1_startAnew 36 = .ok (.iinc 2 1, 3) := by decide +kernel
theorem dX1_startAnew_39 : decode cX1_startAnew 39 = .ok (.goto (-16), 3) := by decide +kernel
theorem dX1_startAnew_42 : decode cX1_startAnew 42 = .ok (.return_, 1) := by decide +kernel
theorem dX1_worthTogether_0 : decode cX1_worthTogether 0 = .ok (.iconst 0, 1) := by decide +kernel
theorem dX1_worthTogether_1 : decode cX1_worthTogether 1 = .ok (.istore_n 1, 1) := by decide +kernel
theorem dX1_worthTogether_2 : decode cX1_worthTogether 2 = .ok (.iconst 0, 1) := by decide +kernel
theorem dX1_worthTogether_3 : decode cX1_worthTogether 3 = .ok (.istore_n 2, 1) := by decide +kernel
theorem dX1_worthTogether_4 : decode cX1_worthTogether 4 = .ok (.iload_n 2, 1) := by decide +kernel
theorem dX1_worthTogether_5 : decode cX1_worthTogether 5 = .ok (.bipush 80, 2) := by decide +kernel
theorem dX1_worthTogether_7 : decode cX1_worthTogether 7 = .ok (.if_icmp .ge 31, 3) := by decide +kernel
theorem dX1_worthTogether_10 : decode cX1_worthTogether 10 = .ok (.iload_n 1, 1) := by decide +kernel
theorem dX1_worthTogether_11 : decode cX1_worthTogether 11 = .ok (.aload_n 0, 1) := by decide +kernel
theorem dX1_worthTogether_12 : decode cX1_worthTogether 12 = .ok (.getfield 15, 3) := by decide +kernel
theorem dX1_worthTogether_15 : decode cX1_worthTogether 15 = .ok (.iload_n 2, 1) := by decide +kernel
theorem dX1_worthTogether_16 : decode cX1_worthTogether 16 = .ok (.baload, 1) := by decide +kernel
theorem dX1_worthTogether_17 : decode cX1_worthTogether 17 = .ok (.ifCond .eq 12, 3) := by decide +kernel
theorem dX1_worthTogether_20 : decode cX1_worthTogether 20 = .ok (.aload_n 0, 1) := by decide +kernel
theorem dX1_worthTogether_21 : decode cX1_worthTogether 21 = .ok (.getfield 19, 3) := by decide +kernel
theorem dX1_worthTogether_24 : decode cX1_worthTogether 24 = .ok (.iload_n 2, 1) := by decide +kernel
theorem dX1_worthTogether_25 : decode cX1_worthTogether 25 = .ok (.iaload, 1) := by decide +kernel
theorem dX1_worthTogether_26 : decode cX1_worthTogether 26 = .ok (.goto 4, 3) := by decide +kernel
theorem dX1_worthTogether_29 : decode cX1_worthTogether 29 = .ok (.iconst 0, 1) := by decide +kernel
theorem dX1_worthTogether_30 : decode cX1_worthTogether 30 = .ok (.iadd, 1) := by decide +kernel
theorem dX1_worthTogether_31 : decode cX1_worthTogether 31 = .ok (.istore_n 1, 1) := by decide +kernel
theorem dX1_worthTogether_32 : decode cX1_worthTogether 32 = .ok (.iinc 2 1, 3) := by decide +kernel
theorem dX1_worthTogether_35 : decode cX1_worthTogether 35 = .ok (.goto (-31), 3) := by decide +kernel
theorem dX1_worthTogether_38 : decode cX1_worthTogether 38 = .ok (.iload_n 1, 1) := by decide +kernel
theorem dX1_worthTogether_39 : decode cX1_worthTogether 39 = .ok (.ireturn, 1) := by decide +kernel
set_option maxRecDepth 20000 in
theorem ggX1_changeWorth_X1_agentNode : GoodIn wsX1_changeWorth wsX1_agentNode := goodIn_r _ [8] (by decide +kernel) (by decide +kernel)
set_option maxRecDepth 20000 in
theorem gX1_changeWorth_X1_agentNode : GoodIn wsX1_changeWorth (va_wsS RX1 45 yX1_agentNode wsX1_agentNode) := goodIn_app (goodIn_of _ (by decide +kernel)) ggX1_changeWorth_X1_agentNode
set_option maxRecDepth 20000 in
theorem ggX1_changeWorth_X1_editorNode : GoodIn wsX1_changeWorth wsX1_editorNode := goodIn_r _ [11] (by decide +kernel) (by decide +kernel)
set_option maxRecDepth 20000 in
theorem gX1_changeWorth_X1_editorNode : GoodIn wsX1_changeWorth (va_wsS RX1 49 yX1_editorNode wsX1_editorNode) := goodIn_app (goodIn_of _ (by decide +kernel)) ggX1_changeWorth_X1_editorNode
set_option maxRecDepth 20000 in
theorem ggX1_changeWorth_X1_isFree : GoodIn wsX1_changeWorth wsX1_isFree := goodIn_r _ [15, 16, 17, 74, 75, 76, 77, 78, 79, 80, 81] (by decide +kernel) (by decide +kernel)
set_option maxRecDepth 20000 in
theorem gX1_changeWorth_X1_isFree : GoodIn wsX1_changeWorth (wsV RX1 52 RX1 yX1_isFree wsX1_isFree) := goodIn_app (goodIn_of _ (by decide +kernel)) ggX1_changeWorth_X1_isFree
set_option maxRecDepth 20000 in
theorem ggX1_changeWorth_X1_turn : GoodIn wsX1_changeWorth wsX1_turn := goodIn_r _ [21, 1, 16, 5, 6, 7, 8, 9, 10, 11, 74, 75, 76, 77, 78, 79, 80, 81] (by decide +kernel) (by decide +kernel)
set_option maxRecDepth 20000 in
theorem gX1_changeWorth_X1_turn : GoodIn wsX1_changeWorth (wsV RX1 56 RX1 yX1_turn wsX1_turn) := goodIn_app (goodIn_of _ (by decide +kernel)) ggX1_changeWorth_X1_turn
set_option maxRecDepth 20000 in
theorem ggX1_changeWorth_X1_seekWays : GoodIn wsX1_changeWorth wsX1_seekWays := goodIn_r _ [25, 26, 27, 28, 29, 30, 31, 32, 33, 34, 7, 35, 3, 4, 36, 37, 38, 39, 2, 1, 16, 40, 41, 42, 43, 44, 45, 46, 47, 48, 49, 50, 51, 52, 53, 54, 55, 56, 57, 58, 12, 13, 14, 15, 17, 59, 60, 61, 62, 74, 75, 76, 77, 78, 79, 80, 81] (by decide +kernel) (by decide +kernel)
set_option maxRecDepth 20000 in
theorem gX1_changeWorth_X1_seekWays : GoodIn wsX1_changeWorth (wsV RX1 60 RX1 yX1_seekWays wsX1_seekWays) := goodIn_app (goodIn_of _ (by decide +kernel)) ggX1_changeWorth_X1_seekWays
set_option maxRecDepth 20000 in
theorem ggX1_changeWorth_X1_highWeight : GoodIn wsX1_changeWorth wsX1_highWeight := goodIn_r _ [43, 2, 44, 74, 75, 76, 77, 78, 79, 80, 81] (by decide +kernel) (by decide +kernel)
set_option maxRecDepth 20000 in
theorem gX1_changeWorth_X1_highWeight : GoodIn wsX1_changeWorth (wsV RX1 64 RX1 yX1_highWeight wsX1_highWeight) := goodIn_app (goodIn_of _ (by decide +kernel)) ggX1_changeWorth_X1_highWeight
set_option maxRecDepth 20000 in
theorem ggX1_changeWorth_X1_lowWeight : GoodIn wsX1_changeWorth wsX1_lowWeight := goodIn_r _ [47] (by decide +kernel) (by decide +kernel)
set_option maxRecDepth 20000 in
theorem gX1_changeWorth_X1_lowWeight : GoodIn wsX1_changeWorth (va_wsS RX1 68 yX1_lowWeight wsX1_lowWeight) := goodIn_app (goodIn_of _ (by decide +kernel)) ggX1_changeWorth_X1_lowWeight
set_option maxRecDepth 20000 in
theorem ggX1_changeWorth_X1_isGain : GoodIn wsX1_changeWorth wsX1_isGain := goodIn_r _ [54] (by decide +kernel) (by decide +kernel)
set_option maxRecDepth 20000 in
theorem gX1_changeWorth_X1_isGain : GoodIn wsX1_changeWorth (va_wsS RX1 71 yX1_isGain wsX1_isGain) := goodIn_app (goodIn_of _ (by decide +kernel)) ggX1_changeWorth_X1_isGain
set_option maxRecDepth 20000 in
theorem ggX1_changeWorth_X1_turnWay : GoodIn wsX1_changeWorth wsX1_turnWay := goodIn_r _ [66, 26, 67, 68, 69, 70, 71, 72, 73, 18, 19, 20, 7, 21, 1, 16, 5, 6, 8, 9, 10, 11, 74, 75, 76, 77, 78, 79, 80, 81] (by decide +kernel) (by decide +kernel)
set_option maxRecDepth 20000 in
theorem gX1_changeWorth_X1_turnWay : GoodIn wsX1_changeWorth (wsV RX1 75 RX1 yX1_turnWay wsX1_turnWay) := goodIn_app (goodIn_of _ (by decide +kernel)) ggX1_changeWorth_X1_turnWay
theorem dX1_changeWorth_0 : decode cX1_changeWorth 0 = .ok (.aload_n 0, 1) := by decide +kernel
theorem dX1_changeWorth_1 : decode cX1_changeWorth 1 = .ok (.getfield 15, 3) := by decide +kernel
theorem dX1_changeWorth_4 : decode cX1_changeWorth 4 = .ok (.iload_n 1, 1) := by decide +kernel
theorem dX1_changeWorth_5 : decode cX1_changeWorth 5 = .ok (.baload, 1) := by decide +kernel
theorem dX1_changeWorth_6 : decode cX1_changeWorth 6 = .ok (.istore_n 3, 1) := by decide +kernel
theorem dX1_changeWorth_7 : decode cX1_changeWorth 7 = .ok (.iload_n 3, 1) := by decide +kernel
theorem dX1_changeWorth_8 : decode cX1_changeWorth 8 = .ok (.ifCond .eq 21, 3) := by decide +kernel
theorem dX1_changeWorth_11 : decode cX1_changeWorth 11 = .ok (.iload_n 2, 1) := by decide +kernel
theorem dX1_changeWorth_12 : decode cX1_changeWorth 12 = .ok (.aload_n 0, 1) := by decide +kernel
theorem dX1_changeWorth_13 : decode cX1_changeWorth 13 = .ok (.getfield 19, 3) := by decide +kernel
theorem dX1_changeWorth_16 : decode cX1_changeWorth 16 = .ok (.iload_n 1, 1) := by decide +kernel
theorem dX1_changeWorth_17 : decode cX1_changeWorth 17 = .ok (.iaload, 1) := by decide +kernel
theorem dX1_changeWorth_18 : decode cX1_changeWorth 18 = .ok (.if_icmp .lt 7, 3) := by decide +kernel
theorem dX1_changeWorth_21 : decode cX1_changeWorth 21 = .ok (.iconst 1, 1) := by decide +kernel
theorem dX1_changeWorth_22 : decode cX1_changeWorth 22 = .ok (.goto 22, 3) := by decide +kernel
theorem dX1_changeWorth_25 : decode cX1_changeWorth 25 = .ok (.iconst 0, 1) := by decide +kernel
theorem dX1_changeWorth_26 : decode cX1_changeWorth 26 = .ok (.goto 18, 3) := by decide +kernel
theorem dX1_changeWorth_29 : decode cX1_changeWorth 29 = .ok (.iload_n 2, 1) := by decide +kernel
theorem dX1_changeWorth_30 : decode cX1_changeWorth 30 = .ok (.aload_n 0, 1) := by decide +kernel
theorem dX1_changeWorth_31 : decode cX1_changeWorth 31 = .ok (.getfield 19, 3) := by decide +kernel
theorem dX1_changeWorth_34 : decode cX1_changeWorth 34 = .ok (.iload_n 1, 1) := by decide +kernel
theorem dX1_changeWorth_35 : decode cX1_changeWorth 35 = .ok (.iaload, 1) := by decide +kernel
theorem dX1_changeWorth_36 : decode cX1_changeWorth 36 = .ok (.if_icmp .gt 7, 3) := by decide +kernel
theorem dX1_changeWorth_39 : decode cX1_changeWorth 39 = .ok (.iconst 1, 1) := by decide +kernel
theorem dX1_changeWorth_40 : decode cX1_changeWorth 40 = .ok (.goto 4, 3) := by decide +kernel
theorem dX1_changeWorth_43 : decode cX1_changeWorth 43 = .ok (.iconst 0, 1) := by decide +kernel
theorem dX1_changeWorth_44 : decode cX1_changeWorth 44 = .ok (.istore 4, 2) := by decide +kernel
theorem dX1_changeWorth_46 : decode cX1_changeWorth 46 = .ok (.aload_n 0, 1) := by decide +kernel
theorem dX1_changeWorth_47 : decode cX1_changeWorth 47 = .ok (.getfield 19, 3) := by decide +kernel
theorem dX1_changeWorth_50 : decode cX1_changeWorth 50 = .ok (.iload_n 1, 1) := by decide +kernel
theorem dX1_changeWorth_51 : decode cX1_changeWorth 51 = .ok (.iload_n 2, 1) := by decide +kernel
theorem dX1_changeWorth_52 : decode cX1_changeWorth 52 = .ok (.iastore, 1) := by decide +kernel
theorem dX1_changeWorth_53 : decode cX1_changeWorth 53 = .ok (.iload 4, 2) := by decide +kernel
theorem dX1_changeWorth_55 : decode cX1_changeWorth 55 = .ok (.ifCond .eq 4, 3) := by decide +kernel
theorem dX1_changeWorth_58 : decode cX1_changeWorth 58 = .ok (.return_, 1) := by decide +kernel
theorem dX1_changeWorth_59 : decode cX1_changeWorth 59 = .ok (.iload_n 3, 1) := by decide +kernel
theorem dX1_changeWorth_60 : decode cX1_changeWorth 60 = .ok (.ifCond .eq 10, 3) := by decide +kernel
theorem dX1_changeWorth_63 : decode cX1_changeWorth 63 = .ok (.iload_n 1, 1) := by decide +kernel
theorem dX1_changeWorth_64 : decode cX1_changeWorth 64 = .ok (.invokestatic 45, 3) := by decide +kernel
theorem dX1_changeWorth_67 : decode cX1_changeWorth 67 = .ok (.goto 7, 3) := by decide +kernel
theorem dX1_changeWorth_70 : decode cX1_changeWorth 70 = .ok (.iload_n 1, 1) := by decide +kernel
theorem dX1_changeWorth_71 : decode cX1_changeWorth 71 = .ok (.invokestatic 49, 3) := by decide +kernel
theorem dX1_changeWorth_74 : decode cX1_changeWorth 74 = .ok (.istore 5, 2) := by decide +kernel
theorem dX1_changeWorth_76 : decode cX1_changeWorth 76 = .ok (.iload_n 3, 1) := by decide +kernel
theorem dX1_changeWorth_77 : decode cX1_changeWorth 77 = .ok (.ifCond .eq 10, 3) := by decide +kernel
theorem dX1_changeWorth_80 : decode cX1_changeWorth 80 = .ok (.iload_n 1, 1) := by decide +kernel
theorem dX1_changeWorth_81 : decode cX1_changeWorth 81 = .ok (.invokestatic 49, 3) := by decide +kernel
theorem dX1_changeWorth_84 : decode cX1_changeWorth 84 = .ok (.goto 7, 3) := by decide +kernel
theorem dX1_changeWorth_87 : decode cX1_changeWorth 87 = .ok (.iload_n 1, 1) := by decide +kernel
theorem dX1_changeWorth_88 : decode cX1_changeWorth 88 = .ok (.invokestatic 45, 3) := by decide +kernel
theorem dX1_changeWorth_91 : decode cX1_changeWorth 91 = .ok (.istore 6, 2) := by decide +kernel
theorem dX1_changeWorth_93 : decode cX1_changeWorth 93 = .ok (.iload_n 3, 1) := by decide +kernel
theorem dX1_changeWorth_94 : decode cX1_changeWorth 94 = .ok (.ifCond .ne 27, 3) := by decide +kernel
theorem dX1_changeWorth_97 : decode cX1_changeWorth 97 = .ok (.aload_n 0, 1) := by decide +kernel
theorem dX1_changeWorth_98 : decode cX1_changeWorth 98 = .ok (.iload 5, 2) := by decide +kernel
theorem dX1_changeWorth_100 : decode cX1_changeWorth 100 = .ok (.invokevirtual 52, 3) := by decide +kernel
theorem dX1_changeWorth_103 : decode cX1_changeWorth 103 = .ok (.ifCond .eq 18, 3) := by decide +kernel
theorem dX1_changeWorth_106 : decode cX1_changeWorth 106 = .ok (.aload_n 0, 1) := by decide +kernel
theorem dX1_changeWorth_107 : decode cX1_changeWorth 107 = .ok (.iload 6, 2) := by decide +kernel
theorem dX1_changeWorth_109 : decode cX1_changeWorth 109 = .ok (.invokevirtual 52, 3) := by decide +kernel
theorem dX1_changeWorth_112 : decode cX1_changeWorth 112 = .ok (.ifCond .eq 9, 3) := by decide +kernel
theorem dX1_changeWorth_115 : decode cX1_changeWorth 115 = .ok (.aload_n 0, 1) := by decide +kernel
theorem dX1_changeWorth_116 : decode cX1_changeWorth 116 = .ok (.iload_n 1, 1) := by decide +kernel
theorem dX1_changeWorth_117 : decode cX1_changeWorth 117 = .ok (.invokevirtual 56, 3) := by decide +kernel
theorem dX1_changeWorth_120 : decode cX1_changeWorth 120 = .ok (.return_, 1) := by decide +kernel
theorem dX1_changeWorth_121 : decode cX1_changeWorth 121 = .ok (.aload_n 0, 1) := by decide +kernel
theorem dX1_changeWorth_122 : decode cX1_changeWorth 122 = .ok (.iload 5, 2) := by decide +kernel
theorem dX1_changeWorth_124 : decode cX1_changeWorth 124 = .ok (.iload_n 1, 1) := by decide +kernel
theorem dX1_changeWorth_125 : decode cX1_changeWorth 125 = .ok (.invokevirtual 60, 3) := by decide +kernel
theorem dX1_changeWorth_128 : decode cX1_changeWorth 128 = .ok (.iload_n 3, 1) := by decide +kernel
theorem dX1_changeWorth_129 : decode cX1_changeWorth 129 = .ok (.ifCond .eq 12, 3) := by decide +kernel
theorem dX1_changeWorth_132 : decode cX1_changeWorth 132 = .ok (.aload_n 0, 1) := by decide +kernel
theorem dX1_changeWorth_133 : decode cX1_changeWorth 133 = .ok (.iload_n 1, 1) := by decide +kernel
theorem dX1_changeWorth_134 : decode cX1_changeWorth 134 = .ok (.invokevirtual 64, 3) := by decide +kernel
theorem dX1_changeWorth_137 : decode cX1_changeWorth 137 = .ok (.lneg, 1) := by decide +kernel
theorem dX1_changeWorth_138 : decode cX1_changeWorth 138 = .ok (.goto 8, 3) := by decide +kernel
theorem dX1_changeWorth_141 : decode cX1_changeWorth 141 = .ok (.aload_n 0, 1) := by decide +kernel
theorem dX1_changeWorth_142 : decode cX1_changeWorth 142 = .ok (.iload_n 1, 1) := by decide +kernel
theorem dX1_changeWorth_143 : decode cX1_changeWorth 143 = .ok (.invokevirtual 64, 3) := by decide +kernel
theorem dX1_changeWorth_146 : decode cX1_changeWorth 146 = .ok (.lstore 7, 2) := by decide +kernel
theorem dX1_changeWorth_148 : decode cX1_changeWorth 148 = .ok (.iload_n 3, 1) := by decide +kernel
theorem dX1_changeWorth_149 : decode cX1_changeWorth 149 = .ok (.ifCond .eq 11, 3) := by decide +kernel
theorem dX1_changeWorth_152 : decode cX1_changeWorth 152 = .ok (.iload_n 1, 1) := by decide +kernel
theorem dX1_changeWorth_153 : decode cX1_changeWorth 153 = .ok (.invokestatic 68, 3) := by decide +kernel
theorem dX1_changeWorth_156 : decode cX1_changeWorth 156 = .ok (.lneg, 1) := by decide +kernel
theorem dX1_changeWorth_157 : decode cX1_changeWorth 157 = .ok (.goto 7, 3) := by decide +kernel
theorem dX1_changeWorth_160 : decode cX1_changeWorth 160 = .ok (.iload_n 1, 1) := by decide +kernel
theorem dX1_changeWorth_161 : decode cX1_changeWorth 161 = .ok (.invokestatic 68, 3) := by decide +kernel
theorem dX1_changeWorth_164 : decode cX1_changeWorth 164 = .ok (.lstore 9, 2) := by decide +kernel
theorem dX1_changeWorth_166 : decode cX1_changeWorth 166 = .ok (.aload_n 0, 1) := by decide +kernel
theorem dX1_changeWorth_167 : decode cX1_changeWorth 167 = .ok (.getfield 26, 3) := by decide +kernel
theorem dX1_changeWorth_170 : decode cX1_changeWorth 170 = .ok (.iload 6, 2) := by decide +kernel
theorem dX1_changeWorth_172 : decode cX1_changeWorth 172 = .ok (.laload, 1) := by decide +kernel
theorem dX1_changeWorth_173 : decode cX1_changeWorth 173 = .ok (.lload 7, 2) := by decide +kernel
theorem dX1_changeWorth_175 : decode cX1_changeWorth 175 = .ok (.ladd, 1) := by decide +kernel
theorem dX1_changeWorth_176 : decode cX1_changeWorth 176 = .ok (.aload_n 0, 1) := by decide +kernel
theorem dX1_changeWorth_177 : decode cX1_changeWorth 177 = .ok (.getfield 30, 3) := by decide +kernel
theorem dX1_changeWorth_180 : decode cX1_changeWorth 180 = .ok (.iload 6, 2) := by decide +kernel
theorem dX1_changeWorth_182 : decode cX1_changeWorth 182 = .ok (.laload, 1) := by decide +kernel
theorem dX1_changeWorth_183 : decode cX1_changeWorth 183 = .ok (.lload 9, 2) := by decide +kernel
theorem dX1_changeWorth_185 : decode cX1_changeWorth 185 = .ok (.ladd, 1) := by decide +kernel
theorem dX1_changeWorth_186 : decode cX1_changeWorth 186 = .ok (.invokestatic 71, 3) := by decide +kernel
theorem dX1_changeWorth_189 : decode cX1_changeWorth 189 = .ok (.ifCond .eq 16, 3) := by decide +kernel
theorem dX1_changeWorth_192 : decode cX1_changeWorth 192 = .ok (.aload_n 0, 1) := by decide +kernel
theorem dX1_changeWorth_193 : decode cX1_changeWorth 193 = .ok (.iload 5, 2) := by decide +kernel
theorem dX1_changeWorth_195 : decode cX1_changeWorth 195 = .ok (.iload 6, 2) := by decide +kernel
theorem dX1_changeWorth_197 : decode cX1_changeWorth 197 = .ok (.invokevirtual 75, 3) := by decide +kernel
theorem dX1_changeWorth_200 : decode cX1_changeWorth 200 = .ok (.aload_n 0, 1) := by decide +kernel
theorem dX1_changeWorth_201 : decode cX1_changeWorth 201 = .ok (.iload_n 1, 1) := by decide +kernel
theorem dX1_changeWorth_202 : decode cX1_changeWorth 202 = .ok (.invokevirtual 56, 3) := by decide +kernel
theorem dX1_changeWorth_205 : decode cX1_changeWorth 205 = .ok (.return_, 1) := by decide +kernel
theorem dX1_agentNode_0 : decode cX1_agentNode 0 = .ok (.iload_n 0, 1) := by decide +kernel
theorem dX1_agentNode_1 : decode cX1_agentNode 1 = .ok (.bipush 10, 2) := by decide +kernel
theorem dX1_agentNode_3 : decode cX1_agentNode 3 = .ok (.idiv, 1) := by decide +kernel
theorem dX1_agentNode_4 : decode cX1_agentNode 4 = .ok (.ireturn, 1) := by decide +kernel
theorem dX1_editorNode_0 : decode cX1_editorNode 0 = .ok (.bipush 8, 2) := by decide +kernel
theorem dX1_editorNode_2 : decode cX1_editorNode 2 = .ok (.iload_n 0, 1) := by decide +kernel
theorem dX1_editorNode_3 : decode cX1_editorNode 3 = .ok (.bipush 10, 2) := by decide +kernel
theorem dX1_editorNode_5 : decode cX1_editorNode 5 = .ok (.irem, 1) := by decide +kernel
theorem dX1_editorNode_6 : decode cX1_editorNode 6 = .ok (.iadd, 1) := by decide +kernel
theorem dX1_editorNode_7 : decode cX1_editorNode 7 = .ok (.ireturn, 1) := by decide +kernel
theorem dX1_isFree_0 : decode cX1_isFree 0 = .ok (.aload_n 0, 1) := by decide +kernel
theorem dX1_isFree_1 : decode cX1_isFree 1 = .ok (.getfield 23, 3) := by decide +kernel
theorem dX1_isFree_4 : decode cX1_isFree 4 = .ok (.iload_n 1, 1) := by decide +kernel
theorem dX1_isFree_5 : decode cX1_isFree 5 = .ok (.iaload, 1) := by decide +kernel
theorem dX1_isFree_6 : decode cX1_isFree 6 = .ok (.aload_n 0, 1) := by decide +kernel
theorem dX1_isFree_7 : decode cX1_isFree 7 = .ok (.getfield 11, 3) := by decide +kernel
theorem dX1_isFree_10 : decode cX1_isFree 10 = .ok (.if_icmp .ge 7, 3) := by decide +kernel
theorem dX1_isFree_13 : decode cX1_isFree 13 = .ok (.iconst 1, 1) := by decide +kernel
theorem dX1_isFree_14 : decode cX1_isFree 14 = .ok (.goto 4, 3) := by decide +kernel
theorem dX1_isFree_17 : decode cX1_isFree 17 = .ok (.iconst 0, 1) := by decide +kernel
theorem dX1_isFree_18 : decode cX1_isFree 18 = .ok (.ireturn, 1) := by decide +kernel
theorem dX1_isGain_0 : decode cX1_isGain 0 = .ok (.lload_n 0, 1) := by decide +kernel
theorem dX1_isGain_1 : decode cX1_isGain 1 = .ok (.lconst 0, 1) := by decide +kernel
theorem dX1_isGain_2 : decode cX1_isGain 2 = .ok (.lcmp, 1) := by decide +kernel
theorem dX1_isGain_3 : decode cX1_isGain 3 = .ok (.ifCond .gt 15, 3) := by decide +kernel
theorem dX1_isGain_6 : decode cX1_isGain 6 = .ok (.lload_n 0, 1) := by decide +kernel
theorem dX1_isGain_7 : decode cX1_isGain 7 = .ok (.lconst 0, 1) := by decide +kernel
theorem dX1_isGain_8 : decode cX1_isGain 8 = .ok (.lcmp, 1) := by decide +kernel
theorem dX1_isGain_9 : decode cX1_isGain 9 = .ok (.ifCond .ne 13, 3) := by decide +kernel
theorem dX1_isGain_12 : decode cX1_isGain 12 = .ok (.lload_n 2, 1) := by decide +kernel
theorem dX1_isGain_13 : decode cX1_isGain 13 = .ok (.lconst 0, 1) := by decide +kernel
theorem dX1_isGain_14 : decode cX1_isGain 14 = .ok (.lcmp, 1) := by decide +kernel
theorem dX1_isGain_15 : decode cX1_isGain 15 = .ok (.ifCond .le 7, 3) := by decide +kernel
theorem dX1_isGain_18 : decode cX1_isGain 18 = .ok (.iconst 1, 1) := by decide +kernel
theorem dX1_isGain_19 : decode cX1_isGain 19 = .ok (.goto 4, 3) := by decide +kernel
theorem dX1_isGain_22 : decode cX1_isGain 22 = .ok (.iconst 0, 1) := by decide +kernel
theorem dX1_isGain_23 : decode cX1_isGain 23 = .ok (.ireturn, 1) := by decide +kernel
theorem dX1_highWeight_0 : decode cX1_highWeight 0 = .ok (.aload_n 0, 1) := by decide +kernel
theorem dX1_highWeight_1 : decode cX1_highWeight 1 = .ok (.getfield 19, 3) := by decide +kernel
theorem dX1_highWeight_4 : decode cX1_highWeight 4 = .ok (.iload_n 1, 1) := by decide +kernel
theorem dX1_highWeight_5 : decode cX1_highWeight 5 = .ok (.iaload, 1) := by decide +kernel
theorem dX1_highWeight_6 : decode cX1_highWeight 6 = .ok (.ifCond .ne 7, 3) := by decide +kernel
theorem dX1_highWeight_9 : decode cX1_highWeight 9 = .ok (.ldc2_w 78, 3) := by decide +kernel
theorem dX1_highWeight_12 : decode cX1_highWeight 12 = .ok (.lreturn, 1) := by decide +kernel
theorem dX1_highWeight_13 : decode cX1_highWeight 13 = .ok (.iload_n 1, 1) := by decide +kernel
theorem dX1_highWeight_14 : decode cX1_highWeight 14 = .ok (.bipush 40, 2) := by decide +kernel
theorem dX1_highWeight_16 : decode cX1_highWeight 16 = .ok (.if_icmp .ge 12, 3) := by decide +kernel
theorem dX1_highWeight_19 : decode cX1_highWeight 19 = .ok (.lconst 1, 1) := by decide +kernel
theorem dX1_highWeight_20 : decode cX1_highWeight 20 = .ok (.bipush 39, 2) := by decide +kernel
theorem dX1_highWeight_22 : decode cX1_highWeight 22 = .ok (.iload_n 1, 1) := by decide +kernel
theorem dX1_highWeight_23 : decode cX1_highWeight 23 = .ok (.isub, 1) := by decide +kernel
theorem dX1_highWeight_24 : decode cX1_highWeight 24 = .ok (.lshl, 1) := by decide +kernel
theorem dX1_highWeight_25 : decode cX1_highWeight 25 = .ok (.goto 4, 3) := by decide +kernel
theorem dX1_highWeight_28 : decode cX1_highWeight 28 = .ok (.lconst 0, 1) := by decide +kernel
theorem dX1_highWeight_29 : decode cX1_highWeight 29 = .ok (.lstore_n 2, 1) := by decide +kernel
theorem dX1_highWeight_30 : decode cX1_highWeight 30 = .ok (.aload_n 0, 1) := by decide +kernel
theorem dX1_highWeight_31 : decode cX1_highWeight 31 = .ok (.getfield 19, 3) := by decide +kernel
theorem dX1_highWeight_34 : decode cX1_highWeight 34 = .ok (.iload_n 1, 1) := by decide +kernel
theorem dX1_highWeight_35 : decode cX1_highWeight 35 = .ok (.iaload, 1) := by decide +kernel
theorem dX1_highWeight_36 : decode cX1_highWeight 36 = .ok (.i2l, 1) := by decide +kernel
theorem dX1_highWeight_37 : decode cX1_highWeight 37 = .ok (.bipush 42, 2) := by decide +kernel
theorem dX1_highWeight_39 : decode cX1_highWeight 39 = .ok (.lshl, 1) := by decide +kernel
theorem dX1_highWeight_40 : decode cX1_highWeight 40 = .ok (.lload_n 2, 1) := by decide +kernel
theorem dX1_highWeight_41 : decode cX1_highWeight 41 = .ok (.ladd, 1) := by decide +kernel
theorem dX1_highWeight_42 : decode cX1_highWeight 42 = .ok (.lreturn, 1) := by decide +kernel
theorem dX1_lowWeight_0 : decode cX1_lowWeight 0 = .ok (.iload_n 0, 1) := by decide +kernel
theorem dX1_lowWeight_1 : decode cX1_lowWeight 1 = .ok (.bipush 40, 2) := by decide +kernel
theorem dX1_lowWeight_3 : decode cX1_lowWeight 3 = .ok (.if_icmp .ge 7, 3) := by decide +kernel
theorem dX1_lowWeight_6 : decode cX1_lowWeight 6 = .ok (.lconst 0, 1) := by decide +kernel
theorem dX1_lowWeight_7 : decode cX1_lowWeight 7 = .ok (.goto 9, 3) := by decide +kernel
theorem dX1_lowWeight_10 : decode cX1_lowWeight 10 = .ok (.lconst 1, 1) := by decide +kernel
theorem dX1_lowWeight_11 : decode cX1_lowWeight 11 = .ok (.bipush 79, 2) := by decide +kernel
theorem dX1_lowWeight_13 : decode cX1_lowWeight 13 = .ok (.iload_n 0, 1) := by decide +kernel
theorem dX1_lowWeight_14 : decode cX1_lowWeight 14 = .ok (.isub, 1) := by decide +kernel
theorem dX1_lowWeight_15 : decode cX1_lowWeight 15 = .ok (.lshl, 1) := by decide +kernel
theorem dX1_lowWeight_16 : decode cX1_lowWeight 16 = .ok (.lreturn, 1) := by decide +kernel
set_option maxRecDepth 20000 in
theorem ggX1_seekWays_J7_fill_53178 : GoodIn wsX1_seekWays wsJ7_fill_53178 := goodIn_r _ [6] (by decide +kernel) (by decide +kernel)
set_option maxRecDepth 20000 in
theorem gX1_seekWays_J7_fill_53178 : GoodIn wsX1_seekWays (va_wsS RX1 39 yJ7_fill_53178 wsJ7_fill_53178) := goodIn_app (goodIn_of _ (by decide +kernel)) ggX1_seekWays_J7_fill_53178
set_option maxRecDepth 20000 in
theorem ggX1_seekWays_X1_reach : GoodIn wsX1_seekWays wsX1_reach := goodIn_r _ [11, 1, 12, 13, 2, 49, 50, 51, 52, 53, 54, 55, 56] (by decide +kernel) (by decide +kernel)
set_option maxRecDepth 20000 in
theorem gX1_seekWays_X1_reach : GoodIn wsX1_seekWays (wsV RX1 80 RX1 yX1_reach wsX1_reach) := goodIn_app (goodIn_of _ (by decide +kernel)) ggX1_seekWays_X1_reach
set_option maxRecDepth 20000 in
theorem ggX1_seekWays_X1_stepFromAgent : GoodIn wsX1_seekWays wsX1_stepFromAgent := goodIn_r _ [17, 18, 19, 20, 21, 22, 23, 10, 24, 25, 26, 27, 28, 29, 30, 31, 32, 12, 13, 1, 33, 34, 35, 7, 8, 9, 11, 2, 49, 50, 51, 52, 53, 54, 55, 56] (by decide +kernel) (by decide +kernel)
set_option maxRecDepth 20000 in
theorem gX1_seekWays_X1_stepFromAgent : GoodIn wsX1_seekWays (wsV RX1 84 RX1 yX1_stepFromAgent wsX1_stepFromAgent) := goodIn_app (goodIn_of _ (by decide +kernel)) ggX1_seekWays_X1_stepFromAgent
set_option maxRecDepth 20000 in
theorem ggX1_seekWays_X1_stepFromEditor : GoodIn wsX1_seekWays wsX1_stepFromEditor := goodIn_r _ [39, 19, 21, 22, 23, 10, 24, 18, 25, 26, 27, 28, 29, 30, 31, 32, 12, 13, 1, 33, 34, 35, 7, 8, 9, 11, 2, 40, 41, 42, 43, 20, 44, 49, 50, 51, 52, 53, 54, 55, 56] (by decide +kernel) (by decide +kernel)
set_option maxRecDepth 20000 in
theorem gX1_seekWays_X1_stepFromEditor : GoodIn wsX1_seekWays (wsV RX1 87 RX1 yX1_stepFromEditor wsX1_stepFromEditor) := goodIn_app (goodIn_of _ (by decide +kernel)) ggX1_seekWays_X1_stepFromEditor
set_option maxRecDepth 20000 in
theorem ggX1_seekWays_X1_stepFromHub : GoodIn wsX1_seekWays wsX1_stepFromHub := goodIn_r _ [48, 20, 40, 41, 42, 10, 43, 44, 29, 30, 31, 32, 12, 13, 1, 33, 34, 35, 7, 8, 9, 11, 2, 49, 50, 51, 52, 53, 54, 55, 56] (by decide +kernel) (by decide +kernel)
set_option maxRecDepth 20000 in
theorem gX1_seekWays_X1_stepFromHub : GoodIn wsX1_seekWays (wsV RX1 90 RX1 yX1_stepFromHub wsX1_stepFromHub) := goodIn_app (goodIn_of _ (by decide +kernel)) ggX1_seekWays_X1_stepFromHub
theorem dX1_seekWays_0 : decode cX1_seekWays 0 = .ok (.aload_n 0, 1) := by decide +kernel
theorem dX1_seekWays_1 : decode cX1_seekWays 1 = .ok (.getfield 33, 3) := by decide +kernel
theorem dX1_seekWays_4 : decode cX1_seekWays 4 = .ok (.iconst (-1), 1) := by decide +kernel
theorem dX1_seekWays_5 : decode cX1_seekWays 5 = .ok (.invokestatic 39, 3) := by decide +kernel
theorem dX1_seekWays_8 : decode cX1_seekWays 8 = .ok (.aload_n 0, 1) := by decide +kernel
theorem dX1_seekWays_9 : decode cX1_seekWays 9 = .ok (.iload_n 1, 1) := by decide +kernel
theorem dX1_seekWays_10 : decode cX1_seekWays 10 = .ok (.iload_n 1, 1) := by decide +kernel
theorem dX1_seekWays_11 : decode cX1_seekWays 11 = .ok (.lconst 0, 1) := by decide +kernel
theorem dX1_seekWays_12 : decode cX1_seekWays 12 = .ok (.lconst 0, 1) := by decide +kernel
theorem dX1_seekWays_13 : decode cX1_seekWays 13 = .ok (.invokevirtual 80, 3) := by decide +kernel
theorem dX1_seekWays_16 : decode cX1_seekWays 16 = .ok (.iconst 1, 1) := by decide +kernel
theorem dX1_seekWays_17 : decode cX1_seekWays 17 = .ok (.istore_n 3, 1) := by decide +kernel
theorem dX1_seekWays_18 : decode cX1_seekWays 18 = .ok (.iconst 0, 1) := by decide +kernel
theorem dX1_seekWays_19 : decode cX1_seekWays 19 = .ok (.istore 4, 2) := by decide +kernel
theorem dX1_seekWays_21 : decode cX1_seekWays 21 = .ok (.iload_n 3, 1) := by decide +kernel
theorem dX1_seekWays_22 : decode cX1_seekWays 22 = .ok (.ifCond .eq 95, 3) := by decide +kernel
theorem dX1_seekWays_25 : decode cX1_seekWays 25 = .ok (.iload 4, 2) := by decide +kernel
theorem dX1_seekWays_27 : decode cX1_seekWays 27 = .ok (.bipush 19, 2) := by decide +kernel
theorem dX1_seekWays_29 : decode cX1_seekWays 29 = .ok (.if_icmp .ge 88, 3) := by decide +kernel
theorem dX1_seekWays_32 : decode cX1_seekWays 32 = .ok (.iconst 0, 1) := by decide +kernel
theorem dX1_seekWays_33 : decode cX1_seekWays 33 = .ok (.istore_n 3, 1) := by decide +kernel
theorem dX1_seekWays_34 : decode cX1_seekWays 34 = .ok (.iconst 0, 1) := by decide +kernel
theorem dX1_seekWays_35 : decode cX1_seekWays 35 = .ok (.istore 5, 2) := by decide +kernel
theorem dX1_seekWays_37 : decode cX1_seekWays 37 = .ok (.iload 5, 2) := by decide +kernel
theorem dX1_seekWays_39 : decode cX1_seekWays 39 = .ok (.bipush 19, 2) := by decide +kernel
theorem dX1_seekWays_41 : decode cX1_seekWays 41 = .ok (.if_icmp .ge 70, 3) := by decide +kernel
theorem dX1_seekWays_44 : decode cX1_seekWays 44 = .ok (.aload_n 0, 1) := by decide +kernel
theorem dX1_seekWays_45 : decode cX1_seekWays 45 = .ok (.getfield 36, 3) := by decide +kernel
theorem dX1_seekWays_48 : decode cX1_seekWays 48 = .ok (.iload 5, 2) := by decide +kernel
theorem dX1_seekWays_50 : decode cX1_seekWays 50 = .ok (.baload, 1) := by decide +kernel
theorem dX1_seekWays_51 : decode cX1_seekWays 51 = .ok (.ifCond .ne 6, 3) := by decide +kernel
theorem dX1_seekWays_54 : decode cX1_seekWays 54 = .ok (.goto 51, 3) := by decide +kernel
theorem dX1_seekWays_57 : decode cX1_seekWays 57 = .ok (.aload_n 0, 1) := by decide +kernel
theorem dX1_seekWays_58 : decode cX1_seekWays 58 = .ok (.getfield 36, 3) := by decide +kernel
theorem dX1_seekWays_61 : decode cX1_seekWays 61 = .ok (.iload 5, 2) := by decide +kernel
theorem dX1_seekWays_63 : decode cX1_seekWays 63 = .ok (.iconst 0, 1) := by decide +kernel
theorem dX1_seekWays_64 : decode cX1_seekWays 64 = .ok (.bastore, 1) := by decide +kernel
theorem dX1_seekWays_65 : decode cX1_seekWays 65 = .ok (.iconst 1, 1) := by decide +kernel
theorem dX1_seekWays_66 : decode cX1_seekWays 66 = .ok (.istore_n 3, 1) := by decide +kernel
theorem dX1_seekWays_67 : decode cX1_seekWays 67 = .ok (.iload 5, 2) := by decide +kernel
theorem dX1_seekWays_69 : decode cX1_seekWays 69 = .ok (.bipush 8, 2) := by decide +kernel
theorem dX1_seekWays_71 : decode cX1_seekWays 71 = .ok (.if_icmp .ge 13, 3) := by decide +kernel
theorem dX1_seekWays_74 : decode cX1_seekWays 74 = .ok (.aload_n 0, 1) := by decide +kernel
theorem dX1_seekWays_75 : decode cX1_seekWays 75 = .ok (.iload 5, 2) := by decide +kernel
theorem dX1_seekWays_77 : decode cX1_seekWays 77 = .ok (.iload_n 2, 1) := by decide +kernel
theorem dX1_seekWays_78 : decode cX1_seekWays 78 = .ok (.invokevirtual 84, 3) := by decide +kernel
theorem dX1_seekWays_81 : decode cX1_seekWays 81 = .ok (.goto 24, 3) := by decide +kernel
theorem dX1_seekWays_84 : decode cX1_seekWays 84 = .ok (.iload 5, 2) := by decide +kernel
theorem dX1_seekWays_86 : decode cX1_seekWays 86 = .ok (.bipush 18, 2) := by decide +kernel
theorem dX1_seekWays_88 : decode cX1_seekWays 88 = .ok (.if_icmp .ge 13, 3) := by decide +kernel
theorem dX1_seekWays_91 : decode cX1_seekWays 91 = .ok (.aload_n 0, 1) := by decide +kernel
theorem dX1_seekWays_92 : decode cX1_seekWays 92 = .ok (.iload 5, 2) := by decide +kernel
theorem dX1_seekWays_94 : decode cX1_seekWays 94 = .ok (.iload_n 2, 1) := by decide +kernel
theorem dX1_seekWays_95 : decode cX1_seekWays 95 = .ok (.invokevirtual 87, 3) := by decide +kernel
theorem dX1_seekWays_98 : decode cX1_seekWays 98 = .ok (.goto 7, 3) := by decide +kernel
theorem dX1_seekWays_101 : decode cX1_seekWays 101 = .ok (.aload_n 0, 1) := by decide +kernel
theorem dX1_seekWays_102 : decode cX1_seekWays 102 = .ok (.invokevirtual 90, 3) := by decide +kernel
theorem dX1_seekWays_105 : decode cX1_seekWays 105 = .ok (.iinc 5 1, 3) := by decide +kernel
theorem dX1_seekWays_108 : decode cX1_seekWays 108 = .ok (.goto (-71), 3) := by decide +kernel
theorem dX1_seekWays_111 : decode cX1_seekWays 111 = .ok (.iinc 4 1, 3) := by decide +kernel
theorem dX1_seekWays_114 : decode cX1_seekWays 114 = .ok (.goto (-93), 3) := by decide +kernel
theorem dX1_seekWays_117 : decode cX1_seekWays 117 = .ok (.return_, 1) := by decide +kernel
set_option maxRecDepth 20000 in
theorem ggX1_stepFromHub_X1_isFree : GoodIn wsX1_stepFromHub wsX1_isFree := goodIn_r _ [6, 1, 7, 23, 24, 25, 26, 27, 28, 29, 30] (by decide +kernel) (by decide +kernel)
set_option maxRecDepth 20000 in
theorem gX1_stepFromHub_X1_isFree : GoodIn wsX1_stepFromHub (wsV RX1 52 RX1 yX1_isFree wsX1_isFree) := goodIn_app (goodIn_of _ (by decide +kernel)) ggX1_stepFromHub_X1_isFree
set_option maxRecDepth 20000 in
theorem ggX1_stepFromHub_X1_step : GoodIn wsX1_stepFromHub wsX1_step := goodIn_r _ [11, 12, 13, 14, 15, 16, 5, 17, 18, 19, 20, 21, 22, 23, 24, 25, 26, 27, 28, 29, 30] (by decide +kernel) (by decide +kernel)
set_option maxRecDepth 20000 in
theorem gX1_stepFromHub_X1_step : GoodIn wsX1_stepFromHub (wsV RX1 93 RX1 yX1_step wsX1_step) := goodIn_app (goodIn_of _ (by decide +kernel)) ggX1_stepFromHub_X1_step
theorem dX1_stepFromHub_0 : decode cX1_stepFromHub 0 = .ok (.iconst 0, 1) := by decide +kernel
theorem dX1_stepFromHub_1 : decode cX1_stepFromHub 1 = .ok (.istore_n 1, 1) := by decide +kernel
theorem dX1_stepFromHub_2 : decode cX1_stepFromHub 2 = .ok (.iload_n 1, 1) := by decide +kernel
theorem dX1_stepFromHub_3 : decode cX1_stepFromHub 3 = .ok (.bipush 18, 2) := by decide +kernel
theorem dX1_stepFromHub_5 : decode cX1_stepFromHub 5 = .ok (.if_icmp .ge 44, 3) := by decide +kernel
theorem dX1_stepFromHub_8 : decode cX1_stepFromHub 8 = .ok (.iload_n 1, 1) := by decide +kernel
theorem dX1_stepFromHub_9 : decode cX1_stepFromHub 9 = .ok (.bipush 8, 2) := by decide +kernel
theorem dX1_stepFromHub_11 : decode cX1_stepFromHub 11 = .ok (.if_icmp .ge 14, 3) := by decide +kernel
theorem dX1_stepFromHub_14 : decode cX1_stepFromHub 14 = .ok (.aload_n 0, 1) := by decide +kernel
theorem dX1_stepFromHub_15 : decode cX1_stepFromHub 15 = .ok (.iload_n 1, 1) := by decide +kernel
theorem dX1_stepFromHub_16 : decode cX1_stepFromHub 16 = .ok (.invokevirtual 52, 3) := by decide +kernel
theorem dX1_stepFromHub_19 : decode cX1_stepFromHub 19 = .ok (.ifCond .eq 24, 3) := by decide +kernel
theorem dX1_stepFromHub_22 : decode cX1_stepFromHub 22 = .ok (.goto 12, 3) := by decide +kernel
theorem dX1_stepFromHub_25 : decode cX1_stepFromHub 25 = .ok (.aload_n 0, 1) := by decide +kernel
theorem dX1_stepFromHub_26 : decode cX1_stepFromHub 26 = .ok (.getfield 23, 3) := by decide +kernel
theorem dX1_stepFromHub_29 : decode cX1_stepFromHub 29 = .ok (.iload_n 1, 1) := by decide +kernel
theorem dX1_stepFromHub_30 : decode cX1_stepFromHub 30 = .ok (.iaload, 1) := by decide +kernel
theorem dX1_stepFromHub_31 : decode cX1_stepFromHub 31 = .ok (.ifCond .le 12, 3) := by decide +kernel
theorem dX1_stepFromHub_34 : decode cX1_stepFromHub 34 = .ok (.aload_n 0, 1) := by decide +kernel
theorem dX1_stepFromHub_35 : decode cX1_stepFromHub 35 = .ok (.bipush 18, 2) := by decide +kernel
theorem dX1_stepFromHub_37 : decode cX1_stepFromHub 37 = .ok (.iload_n 1, 1) := by decide +kernel
theorem dX1_stepFromHub_38 : decode cX1_stepFromHub 38 = .ok (.lconst 0, 1) := by decide +kernel
theorem dX1_stepFromHub_39 : decode cX1_stepFromHub 39 = .ok (.lconst 0, 1) := by decide +kernel
theorem dX1_stepFromHub_40 : decode cX1_stepFromHub 40 = .ok (.invokevirtual 93, 3) := by decide +kernel
theorem dX1_stepFromHub_43 : decode cX1_stepFromHub 43 = .ok (.iinc 1 1, 3) := by decide +kernel
theorem dX1_stepFromHub_46 : decode cX1_stepFromHub 46 = .ok (.goto (-44), 3) := by decide +kernel
theorem dX1_stepFromHub_49 : decode cX1_stepFromHub 49 = .ok (.return_, 1) := by decide +kernel
set_option maxRecDepth 20000 in
theorem ggX1_stepFromAgent_X1_highWeight : GoodIn wsX1_stepFromAgent wsX1_highWeight := goodIn_r _ [8, 1, 9, 28, 29, 30, 31, 32, 33, 34, 35] (by decide +kernel) (by decide +kernel)
set_option maxRecDepth 20000 in
theorem gX1_stepFromAgent_X1_highWeight : GoodIn wsX1_stepFromAgent (wsV RX1 64 RX1 yX1_highWeight wsX1_highWeight) := goodIn_app (goodIn_of _ (by decide +kernel)) ggX1_stepFromAgent_X1_highWeight
set_option maxRecDepth 20000 in
theorem ggX1_stepFromAgent_X1_lowWeight : GoodIn wsX1_stepFromAgent wsX1_lowWeight := goodIn_r _ [12] (by decide +kernel) (by decide +kernel)
set_option maxRecDepth 20000 in
theorem gX1_stepFromAgent_X1_lowWeight : GoodIn wsX1_stepFromAgent (va_wsS RX1 68 yX1_lowWeight wsX1_lowWeight) := goodIn_app (goodIn_of _ (by decide +kernel)) ggX1_stepFromAgent_X1_lowWeight
set_option maxRecDepth 20000 in
theorem ggX1_stepFromAgent_X1_step : GoodIn wsX1_stepFromAgent wsX1_step := goodIn_r _ [16, 17, 18, 19, 20, 21, 7, 22, 23, 24, 25, 26, 27, 28, 29, 30, 31, 32, 33, 34, 35] (by decide +kernel) (by decide +kernel)
set_option maxRecDepth 20000 in
theorem gX1_stepFromAgent_X1_step : GoodIn wsX1_stepFromAgent (wsV RX1 93 RX1 yX1_step wsX1_step) := goodIn_app (goodIn_of _ (by decide +kernel)) ggX1_stepFromAgent_X1_step
theorem dX1_stepFromAgent_0 : decode cX1_stepFromAgent 0 = .ok (.iconst 0, 1) := by decide +kernel
theorem dX1_stepFromAgent_1 : decode cX1_stepFromAgent 1 = .ok (.istore_n 3, 1) := by decide +kernel
theorem dX1_stepFromAgent_2 : decode cX1_stepFromAgent 2 = .ok (.iload_n 3, 1) := by decide +kernel
theorem dX1_stepFromAgent_3 : decode cX1_stepFromAgent 3 = .ok (.bipush 10, 2) := by decide +kernel
theorem dX1_stepFromAgent_5 : decode cX1_stepFromAgent 5 = .ok (.if_icmp .ge 63, 3) := by decide +kernel
theorem dX1_stepFromAgent_8 : decode cX1_stepFromAgent 8 = .ok (.iload_n 1, 1) := by decide +kernel
theorem dX1_stepFromAgent_9 : decode cX1_stepFromAgent 9 = .ok (.bipush 10, 2) := by decide +kernel
theorem dX1_stepFromAgent_11 : decode cX1_stepFromAgent 11 = .ok (.imul, 1) := by decide +kernel
theorem dX1_stepFromAgent_12 : decode cX1_stepFromAgent 12 = .ok (.iload_n 3, 1) := by decide +kernel
theorem dX1_stepFromAgent_13 : decode cX1_stepFromAgent 13 = .ok (.iadd, 1) := by decide +kernel
theorem dX1_stepFromAgent_14 : decode cX1_stepFromAgent 14 = .ok (.istore 4, 2) := by decide +kernel
theorem dX1_stepFromAgent_16 : decode cX1_stepFromAgent 16 = .ok (.aload_n 0, 1) := by decide +kernel
theorem dX1_stepFromAgent_17 : decode cX1_stepFromAgent 17 = .ok (.getfield 19, 3) := by decide +kernel
theorem dX1_stepFromAgent_20 : decode cX1_stepFromAgent 20 = .ok (.iload 4, 2) := by decide +kernel
theorem dX1_stepFromAgent_22 : decode cX1_stepFromAgent 22 = .ok (.iaload, 1) := by decide +kernel
theorem dX1_stepFromAgent_23 : decode cX1_stepFromAgent 23 = .ok (.ifCond .le 39, 3) := by decide +kernel
theorem dX1_stepFromAgent_26 : decode cX1_stepFromAgent 26 = .ok (.aload_n 0, 1) := by decide +kernel
theorem dX1_stepFromAgent_27 : decode cX1_stepFromAgent 27 = .ok (.getfield 15, 3) := by decide +kernel
theorem dX1_stepFromAgent_30 : decode cX1_stepFromAgent 30 = .ok (.iload 4, 2) := by decide +kernel
theorem dX1_stepFromAgent_32 : decode cX1_stepFromAgent 32 = .ok (.baload, 1) := by decide +kernel
theorem dX1_stepFromAgent_33 : decode cX1_stepFromAgent 33 = .ok (.ifCond .ne 29, 3) := by decide +kernel
theorem dX1_stepFromAgent_36 : decode cX1_stepFromAgent 36 = .ok (.iload 4, 2) := by decide +kernel
theorem dX1_stepFromAgent_38 : decode cX1_stepFromAgent 38 = .ok (.iload_n 2, 1) := by decide +kernel
theorem dX1_stepFromAgent_39 : decode cX1_stepFromAgent 39 = .ok (.if_icmp .eq 23, 3) := by decide +kernel
theorem dX1_stepFromAgent_42 : decode cX1_stepFromAgent 42 = .ok (.aload_n 0, 1) := by decide +kernel
theorem dX1_stepFromAgent_43 : decode cX1_stepFromAgent 43 = .ok (.iload_n 1, 1) := by decide +kernel
theorem dX1_stepFromAgent_44 : decode cX1_stepFromAgent 44 = .ok (.bipush 8, 2) := by decide +kernel
theorem dX1_stepFromAgent_46 : decode cX1_stepFromAgent 46 = .ok (.iload_n 3, 1) := by decide +kernel
theorem dX1_stepFromAgent_47 : decode cX1_stepFromAgent 47 = .ok (.iadd, 1) := by decide +kernel
theorem dX1_stepFromAgent_48 : decode cX1_stepFromAgent 48 = .ok (.aload_n 0, 1) := by decide +kernel
theorem dX1_stepFromAgent_49 : decode cX1_stepFromAgent 49 = .ok (.iload 4, 2) := by decide +kernel
theorem dX1_stepFromAgent_51 : decode cX1_stepFromAgent 51 = .ok (.invokevirtual 64, 3) := by decide +kernel
theorem dX1_stepFromAgent_54 : decode cX1_stepFromAgent 54 = .ok (.iload 4, 2) := by decide +kernel
theorem dX1_stepFromAgent_56 : decode cX1_stepFromAgent 56 = .ok (.invokestatic 68, 3) := by decide +kernel
theorem dX1_stepFromAgent_59 : decode cX1_stepFromAgent 59 = .ok (.invokevirtual 93, 3) := by decide +kernel
theorem dX1_stepFromAgent_62 : decode cX1_stepFromAgent 62 = .ok (.iinc 3 1, 3) := by decide +kernel
theorem dX1_stepFromAgent_65 : decode cX1_stepFromAgent 65 = .ok (.goto (-63), 3) := by decide +kernel
theorem dX1_stepFromAgent_68 : decode cX1_stepFromAgent 68 = .ok (.aload_n 0, 1) := by decide +kernel
theorem dX1_stepFromAgent_69 : decode cX1_stepFromAgent 69 = .ok (.getfield 23, 3) := by decide +kernel
theorem dX1_stepFromAgent_72 : decode cX1_stepFromAgent 72 = .ok (.iload_n 1, 1) := by decide +kernel
theorem dX1_stepFromAgent_73 : decode cX1_stepFromAgent 73 = .ok (.iaload, 1) := by decide +kernel
theorem dX1_stepFromAgent_74 : decode cX1_stepFromAgent 74 = .ok (.ifCond .le 12, 3) := by decide +kernel
theorem dX1_stepFromAgent_77 : decode cX1_stepFromAgent 77 = .ok (.aload_n 0, 1) := by decide +kernel
theorem dX1_stepFromAgent_78 : decode cX1_stepFromAgent 78 = .ok (.iload_n 1, 1) := by decide +kernel
theorem dX1_stepFromAgent_79 : decode cX1_stepFromAgent 79 = .ok (.bipush 18, 2) := by decide +kernel
theorem dX1_stepFromAgent_81 : decode cX1_stepFromAgent 81 = .ok (.lconst 0, 1) := by decide +kernel
theorem dX1_stepFromAgent_82 : decode cX1_stepFromAgent 82 = .ok (.lconst 0, 1) := by decide +kernel
theorem dX1_stepFromAgent_83 : decode cX1_stepFromAgent 83 = .ok (.invokevirtual 93, 3) := by decide +kernel
theorem dX1_stepFromAgent_86 : decode cX1_stepFromAgent 86 = .ok (.return_, 1) := by decide +kernel
set_option maxRecDepth 20000 in
theorem ggX1_stepFromEditor_X1_highWeight : GoodIn wsX1_stepFromEditor wsX1_highWeight := goodIn_r _ [6, 7, 8, 33, 34, 35, 36, 37, 38, 39, 40] (by decide +kernel) (by decide +kernel)
set_option maxRecDepth 20000 in
theorem gX1_stepFromEditor_X1_highWeight : GoodIn wsX1_stepFromEditor (wsV RX1 64 RX1 yX1_highWeight wsX1_highWeight) := goodIn_app (goodIn_of _ (by decide +kernel)) ggX1_stepFromEditor_X1_highWeight
set_option maxRecDepth 20000 in
theorem ggX1_stepFromEditor_X1_lowWeight : GoodIn wsX1_stepFromEditor wsX1_lowWeight := goodIn_r _ [11] (by decide +kernel) (by decide +kernel)
set_option maxRecDepth 20000 in
theorem gX1_stepFromEditor_X1_lowWeight : GoodIn wsX1_stepFromEditor (va_wsS RX1 68 yX1_lowWeight wsX1_lowWeight) := goodIn_app (goodIn_of _ (by decide +kernel)) ggX1_stepFromEditor_X1_lowWeight
set_option maxRecDepth 20000 in
theorem ggX1_stepFromEditor_X1_step : GoodIn wsX1_stepFromEditor wsX1_step := goodIn_r _ [15, 16, 17, 18, 19, 20, 5, 21, 22, 23, 24, 25, 26, 33, 34, 35, 36, 37, 38, 39, 40] (by decide +kernel) (by decide +kernel)
set_option maxRecDepth 20000 in
theorem gX1_stepFromEditor_X1_step : GoodIn wsX1_stepFromEditor (wsV RX1 93 RX1 yX1_step wsX1_step) := goodIn_app (goodIn_of _ (by decide +kernel)) ggX1_stepFromEditor_X1_step
set_option maxRecDepth 20000 in
theorem ggX1_stepFromEditor_X1_isFree : GoodIn wsX1_stepFromEditor wsX1_isFree := goodIn_r _ [30, 31, 32, 33, 34, 35, 36, 37, 38, 39, 40] (by decide +kernel) (by decide +kernel)
set_option maxRecDepth 20000 in
theorem gX1_stepFromEditor_X1_isFree : GoodIn wsX1_stepFromEditor (wsV RX1 52 RX1 yX1_isFree wsX1_isFree) := goodIn_app (goodIn_of _ (by decide +kernel)) ggX1_stepFromEditor_X1_isFree
theorem dX1_stepFromEditor_0 : decode cX1_stepFromEditor 0 = .ok (.iconst 0, 1) := by decide +kernel
theorem dX1_stepFromEditor_1 : decode cX1_stepFromEditor 1 = .ok (.istore_n 3, 1) := by decide +kernel
theorem dX1_stepFromEditor_2 : decode cX1_stepFromEditor 2 = .ok (.iload_n 3, 1) := by decide +kernel
theorem dX1_stepFromEditor_3 : decode cX1_stepFromEditor 3 = .ok (.bipush 8, 2) := by decide +kernel
theorem dX1_stepFromEditor_5 : decode cX1_stepFromEditor 5 = .ok (.if_icmp .ge 55, 3) := by decide +kernel
theorem dX1_stepFromEditor_8 : decode cX1_stepFromEditor 8 = .ok (.iload_n 3, 1) := by decide +kernel
theorem dX1_stepFromEditor_9 : decode cX1_stepFromEditor 9 = .ok (.bipush 10, 2) := by decide +kernel
theorem dX1_stepFromEditor_11 : decode cX1_stepFromEditor 11 = .ok (.imul, 1) := by decide +kernel
theorem dX1_stepFromEditor_12 : decode cX1_stepFromEditor 12 = .ok (.iload_n 1, 1) := by decide +kernel
theorem dX1_stepFromEditor_13 : decode cX1_stepFromEditor 13 = .ok (.iadd, 1) := by decide +kernel
theorem dX1_stepFromEditor_14 : decode cX1_stepFromEditor 14 = .ok (.bipush 8, 2) := by decide +kernel
theorem dX1_stepFromEditor_16 : decode cX1_stepFromEditor 16 = .ok (.isub, 1) := by decide +kernel
theorem dX1_stepFromEditor_17 : decode cX1_stepFromEditor 17 = .ok (.istore 4, 2) := by decide +kernel
theorem dX1_stepFromEditor_19 : decode cX1_stepFromEditor 19 = .ok (.aload_n 0, 1) := by decide +kernel
theorem dX1_stepFromEditor_20 : decode cX1_stepFromEditor 20 = .ok (.getfield 15, 3) := by decide +kernel
theorem dX1_stepFromEditor_23 : decode cX1_stepFromEditor 23 = .ok (.iload 4, 2) := by decide +kernel
theorem dX1_stepFromEditor_25 : decode cX1_stepFromEditor 25 = .ok (.baload, 1) := by decide +kernel
theorem dX1_stepFromEditor_26 : decode cX1_stepFromEditor 26 = .ok (.ifCond .eq 28, 3) := by decide +kernel
theorem dX1_stepFromEditor_29 : decode cX1_stepFromEditor 29 = .ok (.iload 4, 2) := by decide +kernel
theorem dX1_stepFromEditor_31 : decode cX1_stepFromEditor 31 = .ok (.iload_n 2, 1) := by decide +kernel
theorem dX1_stepFromEditor_32 : decode cX1_stepFromEditor 32 = .ok (.if_icmp .eq 22, 3) := by decide +kernel
theorem dX1_stepFromEditor_35 : decode cX1_stepFromEditor 35 = .ok (.aload_n 0, 1) := by decide +kernel
theorem dX1_stepFromEditor_36 : decode cX1_stepFromEditor 36 = .ok (.iload_n 1, 1) := by decide +kernel
theorem dX1_stepFromEditor_37 : decode cX1_stepFromEditor 37 = .ok (.iload_n 3, 1) := by decide +kernel
theorem dX1_stepFromEditor_38 : decode cX1_stepFromEditor 38 = .ok (.aload_n 0, 1) := by decide +kernel
theorem dX1_stepFromEditor_39 : decode cX1_stepFromEditor 39 = .ok (.iload 4, 2) := by decide +kernel
theorem dX1_stepFromEditor_41 : decode cX1_stepFromEditor 41 = .ok (.invokevirtual 64, 3) := by decide +kernel
theorem dX1_stepFromEditor_44 : decode cX1_stepFromEditor 44 = .ok (.lneg, 1) := by decide +kernel
theorem dX1_stepFromEditor_45 : decode cX1_stepFromEditor 45 = .ok (.iload 4, 2) := by decide +kernel
theorem dX1_stepFromEditor_47 : decode cX1_stepFromEditor 47 = .ok (.invokestatic 68, 3) := by decide +kernel
theorem dX1_stepFromEditor_50 : decode cX1_stepFromEditor 50 = .ok (.lneg, 1) := by decide +kernel
theorem dX1_stepFromEditor_51 : decode cX1_stepFromEditor 51 = .ok (.invokevirtual 93, 3) := by decide +kernel
theorem dX1_stepFromEditor_54 : decode cX1_stepFromEditor 54 = .ok (.iinc 3 1, 3) := by decide +kernel
theorem dX1_stepFromEditor_57 : decode cX1_stepFromEditor 57 = .ok (.goto (-55), 3) := by decide +kernel
theorem dX1_stepFromEditor_60 : decode cX1_stepFromEditor 60 = .ok (.aload_n 0, 1) := by decide +kernel
theorem dX1_stepFromEditor_61 : decode cX1_stepFromEditor 61 = .ok (.iload_n 1, 1) := by decide +kernel
theorem dX1_stepFromEditor_62 : decode cX1_stepFromEditor 62 = .ok (.invokevirtual 52, 3) := by decide +kernel
theorem dX1_stepFromEditor_65 : decode cX1_stepFromEditor 65 = .ok (.ifCond .eq 12, 3) := by decide +kernel
theorem dX1_stepFromEditor_68 : decode cX1_stepFromEditor 68 = .ok (.aload_n 0, 1) := by decide +kernel
theorem dX1_stepFromEditor_69 : decode cX1_stepFromEditor 69 = .ok (.iload_n 1, 1) := by decide +kernel
theorem dX1_stepFromEditor_70 : decode cX1_stepFromEditor 70 = .ok (.bipush 18, 2) := by decide +kernel
theorem dX1_stepFromEditor_72 : decode cX1_stepFromEditor 72 = .ok (.lconst 0, 1) := by decide +kernel
theorem dX1_stepFromEditor_73 : decode cX1_stepFromEditor 73 = .ok (.lconst 0, 1) := by decide +kernel
theorem dX1_stepFromEditor_74 : decode cX1_stepFromEditor 74 = .ok (.invokevirtual 93, 3) := by decide +kernel
theorem dX1_stepFromEditor_77 : decode cX1_stepFromEditor 77 = .ok (.return_, 1) := by decide +kernel
set_option maxRecDepth 20000 in
theorem ggX1_step_X1_isGain : GoodIn wsX1_step wsX1_isGain := goodIn_r _ [7] (by decide +kernel) (by decide +kernel)
set_option maxRecDepth 20000 in
theorem gX1_step_X1_isGain : GoodIn wsX1_step (va_wsS RX1 71 yX1_isGain wsX1_isGain) := goodIn_app (goodIn_of _ (by decide +kernel)) ggX1_step_X1_isGain
set_option maxRecDepth 20000 in
theorem ggX1_step_X1_reach : GoodIn wsX1_step wsX1_reach := goodIn_r _ [11, 3, 1, 2, 12, 13, 14, 15, 16, 17, 18, 19, 20] (by decide +kernel) (by decide +kernel)
set_option maxRecDepth 20000 in
theorem gX1_step_X1_reach : GoodIn wsX1_step (wsV RX1 80 RX1 yX1_reach wsX1_reach) := goodIn_app (goodIn_of _ (by decide +kernel)) ggX1_step_X1_reach
theorem dX1_step_0 : decode cX1_step 0 = .ok (.aload_n 0, 1) := by decide +kernel
theorem dX1_step_1 : decode cX1_step 1 = .ok (.getfield 26, 3) := by decide +kernel
theorem dX1_step_4 : decode cX1_step 4 = .ok (.iload_n 1, 1) := by decide +kernel
theorem dX1_step_5 : decode cX1_step 5 = .ok (.laload, 1) := by decide +kernel
theorem dX1_step_6 : decode cX1_step 6 = .ok (.lload_n 3, 1) := by decide +kernel
theorem dX1_step_7 : decode cX1_step 7 = .ok (.ladd, 1) := by decide +kernel
theorem dX1_step_8 : decode cX1_step 8 = .ok (.lstore 7, 2) := by decide +kernel
theorem dX1_step_10 : decode cX1_step 10 = .ok (.aload_n 0, 1) := by decide +kernel
theorem dX1_step_11 : decode cX1_step 11 = .ok (.getfield 30, 3) := by decide +kernel
theorem dX1_step_14 : decode cX1_step 14 = .ok (.iload_n 1, 1) := by decide +kernel
theorem dX1_step_15 : decode cX1_step 15 = .ok (.laload, 1) := by decide +kernel
theorem dX1_step_16 : decode cX1_step 16 = .ok (.lload 5, 2) := by decide +kernel
theorem dX1_step_18 : decode cX1_step 18 = .ok (.ladd, 1) := by decide +kernel
theorem dX1_step_19 : decode cX1_step 19 = .ok (.lstore 9, 2) := by decide +kernel
theorem dX1_step_21 : decode cX1_step 21 = .ok (.aload_n 0, 1) := by decide +kernel
theorem dX1_step_22 : decode cX1_step 22 = .ok (.getfield 33, 3) := by decide +kernel
theorem dX1_step_25 : decode cX1_step 25 = .ok (.iload_n 2, 1) := by decide +kernel
theorem dX1_step_26 : decode cX1_step 26 = .ok (.iaload, 1) := by decide +kernel
theorem dX1_step_27 : decode cX1_step 27 = .ok (.iconst (-1), 1) := by decide +kernel
theorem dX1_step_28 : decode cX1_step 28 = .ok (.if_icmp .eq 27, 3) := by decide +kernel
theorem dX1_step_31 : decode cX1_step 31 = .ok (.lload 7, 2) := by decide +kernel
theorem dX1_step_33 : decode cX1_step 33 = .ok (.aload_n 0, 1) := by decide +kernel
theorem dX1_step_34 : decode cX1_step 34 = .ok (.getfield 26, 3) := by decide +kernel
theorem dX1_step_37 : decode cX1_step 37 = .ok (.iload_n 2, 1) := by decide +kernel
theorem dX1_step_38 : decode cX1_step 38 = .ok (.laload, 1) := by decide +kernel
theorem dX1_step_39 : decode cX1_step 39 = .ok (.lsub, 1) := by decide +kernel
theorem dX1_step_40 : decode cX1_step 40 = .ok (.lload 9, 2) := by decide +kernel
theorem dX1_step_42 : decode cX1_step 42 = .ok (.aload_n 0, 1) := by decide +kernel
theorem dX1_step_43 : decode cX1_step 43 = .ok (.getfield 30, 3) := by decide +kernel
theorem dX1_step_46 : decode cX1_step 46 = .ok (.iload_n 2, 1) := by decide +kernel
theorem dX1_step_47 : decode cX1_step 47 = .ok (.laload, 1) := by decide +kernel
theorem dX1_step_48 : decode cX1_step 48 = .ok (.lsub, 1) := by decide +kernel
theorem dX1_step_49 : decode cX1_step 49 = .ok (.invokestatic 71, 3) := by decide +kernel
theorem dX1_step_52 : decode cX1_step 52 = .ok (.ifCond .eq 13, 3) := by decide +kernel
theorem dX1_step_55 : decode cX1_step 55 = .ok (.aload_n 0, 1) := by decide +kernel
theorem dX1_step_56 : decode cX1_step 56 = .ok (.iload_n 1, 1) := by decide +kernel
theorem dX1_step_57 : decode cX1_step 57 = .ok (.iload_n 2, 1) := by decide +kernel
theorem dX1_step_58 : decode cX1_step 58 = .ok (.lload 7, 2) := by decide +kernel
theorem dX1_step_60 : decode cX1_step 60 = .ok (.lload 9, 2) := by decide +kernel
theorem dX1_step_62 : decode cX1_step 62 = .ok (.invokevirtual 80, 3) := by decide +kernel
theorem dX1_step_65 : decode cX1_step 65 = .ok (.return_, 1) := by decide +kernel
theorem dX1_reach_0 : decode cX1_reach 0 = .ok (.aload_n 0, 1) := by decide +kernel
theorem dX1_reach_1 : decode cX1_reach 1 = .ok (.getfield 33, 3) := by decide +kernel
theorem dX1_reach_4 : decode cX1_reach 4 = .ok (.iload_n 2, 1) := by decide +kernel
theorem dX1_reach_5 : decode cX1_reach 5 = .ok (.iload_n 1, 1) := by decide +kernel
theorem dX1_reach_6 : decode cX1_reach 6 = .ok (.iastore, 1) := by decide +kernel
theorem dX1_reach_7 : decode cX1_reach 7 = .ok (.aload_n 0, 1) := by decide +kernel
theorem dX1_reach_8 : decode cX1_reach 8 = .ok (.getfield 26, 3) := by decide +kernel
theorem dX1_reach_11 : decode cX1_reach 11 = .ok (.iload_n 2, 1) := by decide +kernel
theorem dX1_reach_12 : decode cX1_reach 12 = .ok (.lload_n 3, 1) := by decide +kernel
theorem dX1_reach_13 : decode cX1_reach 13 = .ok (.lastore, 1) := by decide +kernel
theorem dX1_reach_14 : decode cX1_reach 14 = .ok (.aload_n 0, 1) := by decide +kernel
theorem dX1_reach_15 : decode cX1_reach 15 = .ok (.getfield 30, 3) := by decide +kernel
theorem dX1_reach_18 : decode cX1_reach 18 = .ok (.iload_n 2, 1) := by decide +kernel
theorem dX1_reach_19 : decode cX1_reach 19 = .ok (.lload 5, 2) := by decide +kernel
theorem dX1_reach_21 : decode cX1_reach 21 = .ok (.lastore, 1) := by decide +kernel
theorem dX1_reach_22 : decode cX1_reach 22 = .ok (.aload_n 0, 1) := by decide +kernel
theorem dX1_reach_23 : decode cX1_reach 23 = .ok (.getfield 36, 3) := by decide +kernel
theorem dX1_reach_26 : decode cX1_reach 26 = .ok (.iload_n 2, 1) := by decide +kernel
theorem dX1_reach_27 : decode cX1_reach 27 = .ok (.iconst 1, 1) := by decide +kernel
theorem dX1_reach_28 : decode cX1_reach 28 = .ok (.bastore, 1) := by decide +kernel
theorem dX1_reach_29 : decode cX1_reach 29 = .ok (.return_, 1) := by decide +kernel
set_option maxRecDepth 20000 in
theorem ggX1_turnWay_X1_turn : GoodIn wsX1_turnWay wsX1_turn := goodIn_r _ [13, 14, 15, 16, 17, 12, 18, 19, 20, 21, 22, 23, 24, 25, 26, 27, 28, 29] (by decide +kernel) (by decide +kernel)
set_option maxRecDepth 20000 in
theorem gX1_turnWay_X1_turn : GoodIn wsX1_turnWay (wsV RX1 56 RX1 yX1_turn wsX1_turn) := goodIn_app (goodIn_of _ (by decide +kernel)) ggX1_turnWay_X1_turn
theorem dX1_turnWay_0 : decode cX1_turnWay 0 = .ok (.iload_n 2, 1) := by decide +kernel
theorem dX1_turnWay_1 : decode cX1_turnWay 1 = .ok (.istore_n 3, 1) := by decide +kernel
theorem dX1_turnWay_2 : decode cX1_turnWay 2 = .ok (.iconst 0, 1) := by decide +kernel
theorem dX1_turnWay_3 : decode cX1_turnWay 3 = .ok (.istore 4, 2) := by decide +kernel
theorem dX1_turnWay_5 : decode cX1_turnWay 5 = .ok (.iload 4, 2) := by decide +kernel
theorem dX1_turnWay_7 : decode cX1_turnWay 7 = .ok (.bipush 19, 2) := by decide +kernel
theorem dX1_turnWay_9 : decode cX1_turnWay 9 = .ok (.if_icmp .ge 79, 3) := by decide +kernel
theorem dX1_turnWay_12 : decode cX1_turnWay 12 = .ok (.iload_n 3, 1) := by decide +kernel
theorem dX1_turnWay_13 : decode cX1_turnWay 13 = .ok (.iload_n 1, 1) := by decide +kernel
theorem dX1_turnWay_14 : decode cX1_turnWay 14 = .ok (.if_icmp .eq 74, 3) := by decide +kernel
theorem dX1_turnWay_17 : decode cX1_turnWay 17 = .ok (.iload_n 3, 1) := by decide +kernel
theorem dX1_turnWay_18 : decode cX1_turnWay 18 = .ok (.iconst (-1), 1) := by decide +kernel
theorem dX1_turnWay_19 : decode cX1_turnWay 19 = .ok (.if_icmp .eq 69, 3) := by decide +kernel
theorem dX1_turnWay_22 : decode cX1_turnWay 22 = .ok (.aload_n 0, 1) := by decide +kernel
theorem dX1_turnWay_23 : decode cX1_turnWay 23 = .ok (.getfield 33, 3) := by decide +kernel
theorem dX1_turnWay_26 : decode cX1_turnWay 26 = .ok (.iload_n 3, 1) := by decide +kernel
theorem dX1_turnWay_27 : decode cX1_turnWay 27 = .ok (.iaload, 1) := by decide +kernel
theorem dX1_turnWay_28 : decode cX1_turnWay 28 = .ok (.istore 5, 2) := by decide +kernel
theorem dX1_turnWay_30 : decode cX1_turnWay 30 = .ok (.iload 5, 2) := by decide +kernel
theorem dX1_turnWay_32 : decode cX1_turnWay 32 = .ok (.ifCond .lt 47, 3) := by decide +kernel
theorem dX1_turnWay_35 : decode cX1_turnWay 35 = .ok (.iload 5, 2) := by decide +kernel
theorem dX1_turnWay_37 : decode cX1_turnWay 37 = .ok (.bipush 18, 2) := by decide +kernel
theorem dX1_turnWay_39 : decode cX1_turnWay 39 = .ok (.if_icmp .ge 40, 3) := by decide +kernel
theorem dX1_turnWay_42 : decode cX1_turnWay 42 = .ok (.iload_n 3, 1) := by decide +kernel
theorem dX1_turnWay_43 : decode cX1_turnWay 43 = .ok (.bipush 18, 2) := by decide +kernel
theorem dX1_turnWay_45 : decode cX1_turnWay 45 = .ok (.if_icmp .ge 34, 3) := by decide +kernel
theorem dX1_turnWay_48 : decode cX1_turnWay 48 = .ok (.iload 5, 2) := by decide +kernel
theorem dX1_turnWay_50 : decode cX1_turnWay 50 = .ok (.iload_n 3, 1) := by decide +kernel
theorem dX1_turnWay_51 : decode cX1_turnWay 51 = .ok (.invokestatic 96, 3) := by decide +kernel
theorem dX1_turnWay_54 : decode cX1_turnWay 54 = .ok (.istore 6, 2) := by decide +kernel
theorem dX1_turnWay_56 : decode cX1_turnWay 56 = .ok (.iload 5, 2) := by decide +kernel
theorem dX1_turnWay_58 : decode cX1_turnWay 58 = .ok (.iload_n 3, 1) := by decide +kernel
theorem dX1_turnWay_59 : decode cX1_turnWay 59 = .ok (.invokestatic 102, 3) := by decide +kernel
theorem dX1_turnWay_62 : decode cX1_turnWay 62 = .ok (.bipush 8, 2) := by decide +kernel
theorem dX1_turnWay_64 : decode cX1_turnWay 64 = .ok (.isub, 1) := by decide +kernel
theorem dX1_turnWay_65 : decode cX1_turnWay 65 = .ok (.istore 7, 2) := by decide +kernel
theorem dX1_turnWay_67 : decode cX1_turnWay 67 = .ok (.aload_n 0, 1) := by decide +kernel
theorem dX1_turnWay_68 : decode cX1_turnWay 68 = .ok (.iload 6, 2) := by decide +kernel
theorem dX1_turnWay_70 : decode cX1_turnWay 70 = .ok (.bipush 10, 2) := by decide +kernel
theorem dX1_turnWay_72 : decode cX1_turnWay 72 = .ok (.imul, 1) := by decide +kernel
theorem dX1_turnWay_73 : decode cX1_turnWay 73 = .ok (.iload 7, 2) := by decide +kernel
theorem dX1_turnWay_75 : decode cX1_turnWay 75 = .ok (.iadd, 1) := by decide +kernel
theorem dX1_turnWay_76 : decode cX1_turnWay 76 = .ok (.invokevirtual 56, 3) := by decide +kernel
theorem dX1_turnWay_79 : decode cX1_turnWay 79 = .ok (.iload 5, 2) := by decide +kernel
theorem dX1_turnWay_81 : decode cX1_turnWay 81 = .ok (.istore_n 3, 1) := by decide +kernel
theorem dX1_turnWay_82 : decode cX1_turnWay 82 = .ok (.iinc 4 1, 3) := by decide +kernel
theorem dX1_turnWay_85 : decode cX1_turnWay 85 = .ok (.goto (-80), 3) := by decide +kernel
theorem dX1_turnWay_88 : decode cX1_turnWay 88 = .ok (.return_, 1) := by decide +kernel
set_option maxRecDepth 20000 in
theorem ggX1_turn_X1_agentNode : GoodIn wsX1_turn wsX1_agentNode := goodIn_r _ [6] (by decide +kernel) (by decide +kernel)
set_option maxRecDepth 20000 in
theorem gX1_turn_X1_agentNode : GoodIn wsX1_turn (va_wsS RX1 45 yX1_agentNode wsX1_agentNode) := goodIn_app (goodIn_of _ (by decide +kernel)) ggX1_turn_X1_agentNode
set_option maxRecDepth 20000 in
theorem ggX1_turn_X1_editorNode : GoodIn wsX1_turn wsX1_editorNode := goodIn_r _ [9] (by decide +kernel) (by decide +kernel)
set_option maxRecDepth 20000 in
theorem gX1_turn_X1_editorNode : GoodIn wsX1_turn (va_wsS RX1 49 yX1_editorNode wsX1_editorNode) := goodIn_app (goodIn_of _ (by decide +kernel)) ggX1_turn_X1_editorNode
theorem dX1_turn_0 : decode cX1_turn 0 = .ok (.aload_n 0, 1) := by decide +kernel
theorem dX1_turn_1 : decode cX1_turn 1 = .ok (.getfield 15, 3) := by decide +kernel
theorem dX1_turn_4 : decode cX1_turn 4 = .ok (.iload_n 1, 1) := by decide +kernel
theorem dX1_turn_5 : decode cX1_turn 5 = .ok (.aload_n 0, 1) := by decide +kernel
theorem dX1_turn_6 : decode cX1_turn 6 = .ok (.getfield 15, 3) := by decide +kernel
theorem dX1_turn_9 : decode cX1_turn 9 = .ok (.iload_n 1, 1) := by decide +kernel
theorem dX1_turn_10 : decode cX1_turn 10 = .ok (.baload, 1) := by decide +kernel
theorem dX1_turn_11 : decode cX1_turn 11 = .ok (.ifCond .ne 7, 3) := by decide +kernel
theorem dX1_turn_14 : decode cX1_turn 14 = .ok (.iconst 1, 1) := by decide +kernel
theorem dX1_turn_15 : decode cX1_turn 15 = .ok (.goto 4, 3) := by decide +kernel
theorem dX1_turn_18 : decode cX1_turn 18 = .ok (.iconst 0, 1) := by decide +kernel
theorem dX1_turn_19 : decode cX1_turn 19 = .ok (.bastore, 1) := by decide +kernel
theorem dX1_turn_20 : decode cX1_turn 20 = .ok (.aload_n 0, 1) := by decide +kernel
theorem dX1_turn_21 : decode cX1_turn 21 = .ok (.getfield 15, 3) := by decide +kernel
theorem dX1_turn_24 : decode cX1_turn 24 = .ok (.iload_n 1, 1) := by decide +kernel
theorem dX1_turn_25 : decode cX1_turn 25 = .ok (.baload, 1) := by decide +kernel
theorem dX1_turn_26 : decode cX1_turn 26 = .ok (.ifCond .eq 7, 3) := by decide +kernel
theorem dX1_turn_29 : decode cX1_turn 29 = .ok (.iconst 1, 1) := by decide +kernel
theorem dX1_turn_30 : decode cX1_turn 30 = .ok (.goto 4, 3) := by decide +kernel
theorem dX1_turn_33 : decode cX1_turn 33 = .ok (.iconst (-1), 1) := by decide +kernel
theorem dX1_turn_34 : decode cX1_turn 34 = .ok (.istore_n 2, 1) := by decide +kernel
theorem dX1_turn_35 : decode cX1_turn 35 = .ok (.aload_n 0, 1) := by decide +kernel
theorem dX1_turn_36 : decode cX1_turn 36 = .ok (.getfield 23, 3) := by decide +kernel
theorem dX1_turn_39 : decode cX1_turn 39 = .ok (.iload_n 1, 1) := by decide +kernel
theorem dX1_turn_40 : decode cX1_turn 40 = .ok (.invokestatic 45, 3) := by decide +kernel
theorem dX1_turn_43 : decode cX1_turn 43 = .ok (.dup2, 1) := by decide +kernel
theorem dX1_turn_44 : decode cX1_turn 44 = .ok (.iaload, 1) := by decide +kernel
theorem dX1_turn_45 : decode cX1_turn 45 = .ok (.iload_n 2, 1) := by decide +kernel
theorem dX1_turn_46 : decode cX1_turn 46 = .ok (.iadd, 1) := by decide +kernel
theorem dX1_turn_47 : decode cX1_turn 47 = .ok (.iastore, 1) := by decide +kernel
theorem dX1_turn_48 : decode cX1_turn 48 = .ok (.aload_n 0, 1) := by decide +kernel
theorem dX1_turn_49 : decode cX1_turn 49 = .ok (.getfield 23, 3) := by decide +kernel
theorem dX1_turn_52 : decode cX1_turn 52 = .ok (.iload_n 1, 1) := by decide +kernel
theorem dX1_turn_53 : decode cX1_turn 53 = .ok (.invokestatic 49, 3) := by decide +kernel
theorem dX1_turn_56 : decode cX1_turn 56 = .ok (.dup2, 1) := by decide +kernel
theorem dX1_turn_57 : decode cX1_turn 57 = .ok (.iaload, 1) := by decide +kernel
theorem dX1_turn_58 : decode cX1_turn 58 = .ok (.iload_n 2, 1) := by decide +kernel
theorem dX1_turn_59 : decode cX1_turn 59 = .ok (.iadd, 1) := by decide +kernel
theorem dX1_turn_60 : decode cX1_turn 60 = .ok (.iastore, 1) := by decide +kernel
theorem dX1_turn_61 : decode cX1_turn 61 = .ok (.return_, 1) := by decide +kernel
theorem dX2_init_0 : decode cX2_init 0 = .ok (.aload_n 0, 1) := by decide +kernel
theorem dX2_init_1 : decode cX2_init 1 = .ok (.invokespecial 3, 3) := by decide +kernel
theorem dX2_init_4 : decode cX2_init 4 = .ok (.aload_n 0, 1) := by decide +kernel
theorem dX2_init_5 : decode cX2_init 5 = .ok (.iconst 0, 1) := by decide +kernel
theorem dX2_init_6 : decode cX2_init 6 = .ok (.putfield 9, 3) := by decide +kernel
theorem dX2_init_9 : decode cX2_init 9 = .ok (.aload_n 0, 1) := by decide +kernel
theorem dX2_init_10 : decode cX2_init 10 = .ok (.bipush 12, 2) := by decide +kernel
theorem dX2_init_12 : decode cX2_init 12 = .ok (.newarray .boolean, 2) := by decide +kernel
theorem dX2_init_14 : decode cX2_init 14 = .ok (.putfield 15, 3) := by decide +kernel
theorem dX2_init_17 : decode cX2_init 17 = .ok (.aload_n 0, 1) := by decide +kernel
theorem dX2_init_18 : decode cX2_init 18 = .ok (.bipush 120, 2) := by decide +kernel
theorem dX2_init_20 : decode cX2_init 20 = .ok (.newarray .boolean, 2) := by decide +kernel
theorem dX2_init_22 : decode cX2_init 22 = .ok (.putfield 19, 3) := by decide +kernel
theorem dX2_init_25 : decode cX2_init 25 = .ok (.aload_n 0, 1) := by decide +kernel
theorem dX2_init_26 : decode cX2_init 26 = .ok (.iconst 0, 1) := by decide +kernel
theorem dX2_init_27 : decode cX2_init 27 = .ok (.putfield 22, 3) := by decide +kernel
theorem dX2_init_30 : decode cX2_init 30 = .ok (.aload_n 0, 1) := by decide +kernel
theorem dX2_init_31 : decode cX2_init 31 = .ok (.bipush 60, 2) := by decide +kernel
theorem dX2_init_33 : decode cX2_init 33 = .ok (.anewarray 25, 3) := by decide +kernel
theorem dX2_init_36 : decode cX2_init 36 = .ok (.putfield 27, 3) := by decide +kernel
theorem dX2_init_39 : decode cX2_init 39 = .ok (.aload_n 0, 1) := by decide +kernel
theorem dX2_init_40 : decode cX2_init 40 = .ok (.iconst 0, 1) := by decide +kernel
theorem dX2_init_41 : decode cX2_init 41 = .ok (.putfield 31, 3) := by decide +kernel
theorem dX2_init_44 : decode cX2_init 44 = .ok (.aload_n 0, 1) := by decide +kernel
theorem dX2_init_45 : decode cX2_init 45 = .ok (.bipush 30, 2) := by decide +kernel
theorem dX2_init_47 : decode cX2_init 47 = .ok (.anewarray 34, 3) := by decide +kernel
theorem dX2_init_50 : decode cX2_init 50 = .ok (.putfield 36, 3) := by decide +kernel
theorem dX2_init_53 : decode cX2_init 53 = .ok (.return_, 1) := by decide +kernel
theorem dX2_addBook_0 : decode cX2_addBook 0 = .ok (.aload_n 0, 1) := by decide +kernel
theorem dX2_addBook_1 : decode cX2_addBook 1 = .ok (.getfield 15, 3) := by decide +kernel
theorem dX2_addBook_4 : decode cX2_addBook 4 = .ok (.aload_n 0, 1) := by decide +kernel
theorem dX2_addBook_5 : decode cX2_addBook 5 = .ok (.getfield 9, 3) := by decide +kernel
theorem dX2_addBook_8 : decode cX2_addBook 8 = .ok (.iload_n 1, 1) := by decide +kernel
theorem dX2_addBook_9 : decode cX2_addBook 9 = .ok (.bastore, 1) := by decide +kernel
theorem dX2_addBook_10 : decode cX2_addBook 10 = .ok (.aload_n 0, 1) := by decide +kernel
theorem dX2_addBook_11 : decode cX2_addBook 11 = .ok (.dup, 1) := by decide +kernel
theorem dX2_addBook_12 : decode cX2_addBook 12 = .ok (.getfield 9, 3) := by decide +kernel
theorem dX2_addBook_15 : decode cX2_addBook 15 = .ok (.iconst 1, 1) := by decide +kernel
theorem dX2_addBook_16 : decode cX2_addBook 16 = .ok (.iadd, 1) := by decide +kernel
theorem dX2_addBook_17 : decode cX2_addBook 17 = .ok (.putfield 9, 3) := by decide +kernel
theorem dX2_addBook_20 : decode cX2_addBook 20 = .ok (.aload_n 0, 1) := by decide +kernel
theorem dX2_addBook_21 : decode cX2_addBook 21 = .ok (.getfield 9, 3) := by decide +kernel
theorem dX2_addBook_24 : decode cX2_addBook 24 = .ok (.iconst 1, 1) := by decide +kernel
theorem dX2_addBook_25 : decode cX2_addBook 25 = .ok (.isub, 1) := by decide +kernel
theorem dX2_addBook_26 : decode cX2_addBook 26 = .ok (.ireturn, 1) := by decide +kernel
theorem dX2_isOnList_0 : decode cX2_isOnList 0 = .ok (.aload_n 0, 1) := by decide +kernel
theorem dX2_isOnList_1 : decode cX2_isOnList 1 = .ok (.getfield 19, 3) := by decide +kernel
theorem dX2_isOnList_4 : decode cX2_isOnList 4 = .ok (.iload_n 1, 1) := by decide +kernel
theorem dX2_isOnList_5 : decode cX2_isOnList 5 = .ok (.bipush 10, 2) := by decide +kernel
theorem dX2_isOnList_7 : decode cX2_isOnList 7 = .ok (.imul, 1) := by decide +kernel
theorem dX2_isOnList_8 : decode cX2_isOnList 8 = .ok (.iload_n 2, 1) := by decide +kernel
