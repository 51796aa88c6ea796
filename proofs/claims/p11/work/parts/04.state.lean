abbrev SSJ : Type := Int32
abbrev SJ_wrongAt (s : SSJ) : Int32 := s
abbrev SJ_mk (wrongAt : Int32) : SSJ := wrongAt
abbrev STx : Type := (Nat → Int32) × (Nat → Int32) × (Nat → Int32) × (Nat → Int32) × (Nat → Int32) × (Nat → Int32) × (Nat → Int32) × (Nat → Int32) × (Nat → Int32) × (Nat → Int32) × Int32 × Int32 × Int32
abbrev Tx_kinds (s : STx) : (Nat → Int32) := s.1
abbrev Tx_places (s : STx) : (Nat → Int32) := s.2.1
abbrev Tx_sizes (s : STx) : (Nat → Int32) := s.2.2.1
abbrev Tx_parents (s : STx) : (Nat → Int32) := s.2.2.2.1
abbrev Tx_exponents (s : STx) : (Nat → Int32) := s.2.2.2.2.1
abbrev Tx_starts (s : STx) : (Nat → Int32) := s.2.2.2.2.2.1
abbrev Tx_afters (s : STx) : (Nat → Int32) := s.2.2.2.2.2.2.1
abbrev Tx_slots (s : STx) : (Nat → Int32) := s.2.2.2.2.2.2.2.1
abbrev Tx_negatives (s : STx) : (Nat → Int32) := s.2.2.2.2.2.2.2.2.1
abbrev Tx_cells (s : STx) : (Nat → Int32) := s.2.2.2.2.2.2.2.2.2.1
abbrev Tx_total (s : STx) : Int32 := s.2.2.2.2.2.2.2.2.2.2.1
abbrev Tx_used (s : STx) : Int32 := s.2.2.2.2.2.2.2.2.2.2.2.1
abbrev Tx_characters (s : STx) : Int32 := s.2.2.2.2.2.2.2.2.2.2.2.2
abbrev Tx_mk (kinds : (Nat → Int32)) (places : (Nat → Int32)) (sizes : (Nat → Int32)) (parents : (Nat → Int32)) (exponents : (Nat → Int32)) (starts : (Nat → Int32)) (afters : (Nat → Int32)) (slots : (Nat → Int32)) (negatives : (Nat → Int32)) (cells : (Nat → Int32)) (total : Int32) (used : Int32) (characters : Int32) : STx := (kinds, places, sizes, parents, exponents, starts, afters, slots, negatives, cells, total, used, characters)
abbrev SRd : Type := (Nat → Int32) × Int32 × Int32 × Int32 × Int32
abbrev Rd_words (s : SRd) : (Nat → Int32) := s.1
abbrev Rd_wordCount (s : SRd) : Int32 := s.2.1
abbrev Rd_position (s : SRd) : Int32 := s.2.2.1
abbrev Rd_limit (s : SRd) : Int32 := s.2.2.2.1
abbrev Rd_wrongPlace (s : SRd) : Int32 := s.2.2.2.2
abbrev Rd_mk (words : (Nat → Int32)) (wordCount : Int32) (position : Int32) (limit : Int32) (wrongPlace : Int32) : SRd := (words, wordCount, position, limit, wrongPlace)
abbrev SPg : Type := (Nat → Int32) × (Nat → Int32) × Int32 × (Nat → Int32) × Int32 × (Nat → Int32) × (Nat → Int32) × Int32 × (Nat → Int32) × Int32 × (Nat → Int32)
abbrev Pg_operations (s : SPg) : (Nat → Int32) := s.1
abbrev Pg_arguments (s : SPg) : (Nat → Int32) := s.2.1
abbrev Pg_length (s : SPg) : Int32 := s.2.2.1
abbrev Pg_sets (s : SPg) : (Nat → Int32) := s.2.2.2.1
abbrev Pg_setsUsed (s : SPg) : Int32 := s.2.2.2.2.1
abbrev Pg_rounds (s : SPg) : (Nat → Int32) := s.2.2.2.2.2.1
abbrev Pg_stack (s : SPg) : (Nat → Int32) := s.2.2.2.2.2.2.1
abbrev Pg_top (s : SPg) : Int32 := s.2.2.2.2.2.2.2.1
abbrev Pg_waiting (s : SPg) : (Nat → Int32) := s.2.2.2.2.2.2.2.2.1
abbrev Pg_waitingCount (s : SPg) : Int32 := s.2.2.2.2.2.2.2.2.2.1
abbrev Pg_moved (s : SPg) : (Nat → Int32) := s.2.2.2.2.2.2.2.2.2.2
abbrev Pg_mk (operations : (Nat → Int32)) (arguments : (Nat → Int32)) (length : Int32) (sets : (Nat → Int32)) (setsUsed : Int32) (rounds : (Nat → Int32)) (stack : (Nat → Int32)) (top : Int32) (waiting : (Nat → Int32)) (waitingCount : Int32) (moved : (Nat → Int32)) : SPg := (operations, arguments, length, sets, setsUsed, rounds, stack, top, waiting, waitingCount, moved)
abbrev SPt : Type := (Nat → Int32) × Int32 × Int32 × Int32 × Int32 × Int32 × Int32 × Int32 × (Nat → Int32) × (Nat → Int32) × (Nat → Int32) × (Nat → Int32)
abbrev Pt_tokens (s : SPt) : (Nat → Int32) := s.1
abbrev Pt_characterCount (s : SPt) : Int32 := s.2.1
abbrev Pt_tokenCount (s : SPt) : Int32 := s.2.2.1
abbrev Pt_position (s : SPt) : Int32 := s.2.2.2.1
abbrev Pt_total (s : SPt) : Int32 := s.2.2.2.2.1
abbrev Pt_least (s : SPt) : Int32 := s.2.2.2.2.2.1
abbrev Pt_most (s : SPt) : Int32 := s.2.2.2.2.2.2.1
abbrev Pt_depth (s : SPt) : Int32 := s.2.2.2.2.2.2.2.1
abbrev Pt_blockStarts (s : SPt) : (Nat → Int32) := s.2.2.2.2.2.2.2.2.1
abbrev Pt_branchStarts (s : SPt) : (Nat → Int32) := s.2.2.2.2.2.2.2.2.2.1
abbrev Pt_jumps (s : SPt) : (Nat → Int32) := s.2.2.2.2.2.2.2.2.2.2.1
abbrev Pt_sizesBefore (s : SPt) : (Nat → Int32) := s.2.2.2.2.2.2.2.2.2.2.2
abbrev Pt_mk (tokens : (Nat → Int32)) (characterCount : Int32) (tokenCount : Int32) (position : Int32) (total : Int32) (least : Int32) (most : Int32) (depth : Int32) (blockStarts : (Nat → Int32)) (branchStarts : (Nat → Int32)) (jumps : (Nat → Int32)) (sizesBefore : (Nat → Int32)) : SPt := (tokens, characterCount, tokenCount, position, total, least, most, depth, blockStarts, branchStarts, jumps, sizesBefore)
abbrev SMk : Type := (Nat → Int32) × (Nat → Int32) × (Nat → Int32)
abbrev Mk_keywords (s : SMk) : (Nat → Int32) := s.1
abbrev Mk_schemas (s : SMk) : (Nat → Int32) := s.2.1
abbrev Mk_targets (s : SMk) : (Nat → Int32) := s.2.2
abbrev Mk_mk (keywords : (Nat → Int32)) (schemas : (Nat → Int32)) (targets : (Nat → Int32)) : SMk := (keywords, schemas, targets)
abbrev SLk : Type := (Nat → Int32) × Int32 × Int32
abbrev Lk_characters (s : SLk) : (Nat → Int32) := s.1
abbrev Lk_length (s : SLk) : Int32 := s.2.1
abbrev Lk_position (s : SLk) : Int32 := s.2.2
abbrev Lk_mk (characters : (Nat → Int32)) (length : Int32) (position : Int32) : SLk := (characters, length, position)
abbrev SCk : Type := (Nat → Int32) × (Nat → Int32) × (Nat → Int32) × Int32 × Int32 × Int32
abbrev Ck_aimedAt (s : SCk) : (Nat → Int32) := s.1
abbrev Ck_reached (s : SCk) : (Nat → Int32) := s.2.1
abbrev Ck_reachedFrom (s : SCk) : (Nat → Int32) := s.2.2.1
abbrev Ck_reachedCount (s : SCk) : Int32 := s.2.2.2.1
abbrev Ck_found (s : SCk) : Int32 := s.2.2.2.2.1
abbrev Ck_foundAt (s : SCk) : Int32 := s.2.2.2.2.2
abbrev Ck_mk (aimedAt : (Nat → Int32)) (reached : (Nat → Int32)) (reachedFrom : (Nat → Int32)) (reachedCount : Int32) (found : Int32) (foundAt : Int32) : SCk := (aimedAt, reached, reachedFrom, reachedCount, found, foundAt)
abbrev SLd : Type := (Nat → Int64) × (Nat → Int64)
abbrev Ld_divisor (s : SLd) : (Nat → Int64) := s.1
abbrev Ld_rest (s : SLd) : (Nat → Int64) := s.2
abbrev Ld_mk (divisor : (Nat → Int64)) (rest : (Nat → Int64)) : SLd := (divisor, rest)
abbrev SPr : Type := (Nat → Int32) × (Nat → Int32) × Int32
abbrev Pr_values (s : SPr) : (Nat → Int32) := s.1
abbrev Pr_keywords (s : SPr) : (Nat → Int32) := s.2.1
abbrev Pr_size (s : SPr) : Int32 := s.2.2
abbrev Pr_mk (values : (Nat → Int32)) (keywords : (Nat → Int32)) (size : Int32) : SPr := (values, keywords, size)
abbrev SJd : Type := (Nat → Int64) × Int32 × Int32 × Int32 × Int32
abbrev Jd_evaluated (s : SJd) : (Nat → Int64) := s.1
abbrev Jd_silences (s : SJd) : Int32 := s.2.1
abbrev Jd_over (s : SJd) : Int32 := s.2.2.1
abbrev Jd_schemas (s : SJd) : Int32 := s.2.2.2.1
abbrev Jd_deepest (s : SJd) : Int32 := s.2.2.2.2
abbrev Jd_mk (evaluated : (Nat → Int64)) (silences : Int32) (over : Int32) (schemas : Int32) (deepest : Int32) : SJd := (evaluated, silences, over, schemas, deepest)
abbrev o_kordinal : List Int32 := [0, 1, 2, 3, 4, 5, 6, 7, 8, 9, 10, 11, 12, 13, 14, 15, 16, 17, 18, 19, 20, 21, 22, 23, 24, 25, 26, 27, 28, 29, 30, 31, 32, 33, 34, 35, 36, 37, 38, 39, 40, 41, 42, 43, 44]
def kw_ordinal (k : Nat) : Int32 := o_kordinal.getD k 0
abbrev o_kform : List Int32 := [0, 1, 1, 1, 1, 1, 1, 1, 1, 1, 1, 2, 2, 2, 2, 3, 3, 3, 3, 4, 4, 4, 4, 5, 6, 6, 6, 6, 6, 6, 6, 6, 7, 8, 9, 10, 11, 12, 13, 14, 15, 16, 16, 16, 16]
def kw_form (k : Nat) : Int32 := o_kform.getD k 0
abbrev o_kkind : List Int32 := [-1, -1, -1, -1, -1, 5, 5, 6, 6, 5, 6, -1, -1, -1, 5, -1, 6, 6, 6, 3, 3, 3, 3, 3, 4, 4, 5, 5, 5, 5, 6, 6, 4, -1, -1, -1, -1, -1, 5, 6, 6, -1, -1, -1, -1]
def kw_kind (k : Nat) : Int32 := o_kkind.getD k 0
abbrev o_kreach : List Int32 := [0, 2, 2, 2, 2, 4, 4, 4, 4, 4, 4, 2, 2, 2, 3, 0, 3, 4, 2, 1, 1, 1, 1, 1, 1, 1, 1, 1, 0, 0, 1, 1, 1, 2, 0, 1, 1, 1, 1, 1, 1, 0, 0, 0, 0]
def kw_reach (k : Nat) : Int32 := o_kreach.getD k 0
abbrev o_srs : List (String × Nat × String × Nat) := [("SchemaJudge", 75, "more than 8,200 octets", 0), ("SchemaJudge", 88, "not so many octets", 1), ("SchemaJudge$Reader", 63, "null", 2), ("SchemaJudge$Reader", 69, "false", 3), ("SchemaJudge$Reader", 71, "true", 4), ("SchemaJudge", 99, "the text is wrong", 5), ("SchemaJudge", 107, "no schema", 6), ("SchemaJudge$Pattern", 90, "0123456789abcdefABCDEF", 7), ("SchemaJudge$Pattern", 85, "dDwWsS", 8), ("SchemaJudge$Pattern", 88, "^$\\.*+?()[]{}|/", 9), ("SchemaJudge$Pattern", 60, "^$.*+?()[]{}|", 10), ("SchemaJudge$Checker", 168, "null", 2), ("SchemaJudge$Checker", 174, "boolean", 11), ("SchemaJudge$Checker", 176, "object", 12), ("SchemaJudge$Checker", 178, "array", 13), ("SchemaJudge$Checker", 180, "number", 14), ("SchemaJudge$Checker", 182, "string", 15), ("SchemaJudge$Checker", 184, "integer", 16), ("SchemaJudge", 119, "no instance, or no schema without a fault", 17), ("SchemaJudge$Judge", 283, "null", 2), ("SchemaJudge$Judge", 289, "boolean", 11), ("SchemaJudge$Judge", 291, "number", 14), ("SchemaJudge$Judge", 296, "integer", 16), ("SchemaJudge$Judge", 298, "string", 15), ("SchemaJudge$Judge", 300, "array", 13), ("SchemaJudge$Judge", 302, "object", 12), ("SchemaJudge", 136, "too many schemas, or too deep", 18), ("SchemaJudge", 142, "no such pair", 19), ("SchemaJudge", 148, "no such question", 20), ("SchemaJudge", 154, "no such value", 21), ("SchemaJudge", 176, "no string", 22), ("SchemaJudge", 185, "no pattern", 23), ("SchemaJudge", 196, "no such count", 24), ("SchemaJudgeModel", 83, "not", 25), ("SchemaJudgeModel", 85, "if", 26), ("SchemaJudgeModel", 87, "then", 27), ("SchemaJudgeModel", 88, "else", 28), ("SchemaJudgeModel", 90, "items", 29), ("SchemaJudgeModel", 92, "contains", 30), ("SchemaJudgeModel", 94, "additionalProperties", 31), ("SchemaJudgeModel", 96, "propertyNames", 32), ("SchemaJudgeModel", 98, "unevaluatedItems", 33), ("SchemaJudgeModel", 100, "unevaluatedProperties", 34), ("SchemaJudgeModel", 102, "allOf", 35), ("SchemaJudgeModel", 104, "anyOf", 36), ("SchemaJudgeModel", 106, "oneOf", 37), ("SchemaJudgeModel", 108, "prefixItems", 38), ("SchemaJudgeModel", 110, "$defs", 39), ("SchemaJudgeModel", 112, "properties", 40), ("SchemaJudgeModel", 114, "patternProperties", 41), ("SchemaJudgeModel", 116, "dependentSchemas", 42), ("SchemaJudgeModel", 118, "maximum", 43), ("SchemaJudgeModel", 120, "exclusiveMaximum", 44), ("SchemaJudgeModel", 122, "minimum", 45), ("SchemaJudgeModel", 124, "exclusiveMinimum", 46), ("SchemaJudgeModel", 126, "multipleOf", 47), ("SchemaJudgeModel", 128, "maxLength", 48), ("SchemaJudgeModel", 130, "minLength", 49), ("SchemaJudgeModel", 132, "maxItems", 50), ("SchemaJudgeModel", 134, "minItems", 51), ("SchemaJudgeModel", 136, "maxContains", 52), ("SchemaJudgeModel", 138, "minContains", 53), ("SchemaJudgeModel", 140, "maxProperties", 54), ("SchemaJudgeModel", 142, "minProperties", 55), ("SchemaJudgeModel", 144, "pattern", 56), ("SchemaJudgeModel", 146, "$ref", 57), ("SchemaJudgeModel", 148, "$anchor", 58), ("SchemaJudgeModel", 150, "type", 59), ("SchemaJudgeModel", 152, "enum", 60), ("SchemaJudgeModel", 154, "const", 61), ("SchemaJudgeModel", 156, "uniqueItems", 62), ("SchemaJudgeModel", 158, "required", 63), ("SchemaJudgeModel", 160, "dependentRequired", 64), ("SchemaJudgeModel", 162, "$id", 65), ("SchemaJudgeModel", 164, "$dynamicRef", 66), ("SchemaJudgeModel", 166, "$dynamicAnchor", 67), ("SchemaJudgeModel", 168, "$vocabulary", 68), ("SchemaJudgeModel", 174, "null", 2), ("SchemaJudgeModel", 176, "boolean", 11), ("SchemaJudgeModel", 178, "object", 12), ("SchemaJudgeModel", 180, "array", 13), ("SchemaJudgeModel", 182, "number", 14), ("SchemaJudgeModel", 184, "string", 15), ("SchemaJudgeModel", 186, "integer", 16), ("SchemaJudgeModel$Text", 107, "null", 2), ("SchemaJudgeModel$Text", 113, "true", 4), ("SchemaJudgeModel$Text", 115, "false", 3), ("SchemaJudge$Keyword", 184, "", 69), ("SchemaJudge$Keyword", 238, "patternProperties", 41), ("SchemaJudge$Keyword", 289, "$anchor", 58), ("SchemaJudge$Keyword", 286, "$ref", 57), ("SchemaJudge$Keyword", 214, "unevaluatedItems", 33), ("SchemaJudge$Keyword", 217, "unevaluatedProperties", 34), ("SchemaJudge$Keyword", 196, "then", 27), ("SchemaJudge$Keyword", 199, "else", 28), ("SchemaJudge$Keyword", 193, "if", 26), ("SchemaJudge$Keyword", 190, "not", 25), ("SchemaJudge$Keyword", 205, "contains", 30), ("SchemaJudge$Keyword", 229, "prefixItems", 38), ("SchemaJudge$Keyword", 235, "properties", 40), ("SchemaJudge$Keyword", 211, "propertyNames", 32), ("SchemaJudge$Keyword", 274, "minContains", 53), ("SchemaJudge$Keyword", 271, "maxContains", 52), ("SchemaJudge$Keyword", 223, "anyOf", 36), ("SchemaJudge$Keyword", 226, "oneOf", 37), ("SchemaJudge$Keyword", 202, "items", 29), ("SchemaJudge$Keyword", 208, "additionalProperties", 31), ("SchemaJudge$Keyword", 220, "allOf", 35), ("SchemaJudge$Keyword", 232, "$defs", 39), ("SchemaJudge$Keyword", 241, "dependentSchemas", 42), ("SchemaJudge$Keyword", 244, "maximum", 43), ("SchemaJudge$Keyword", 247, "exclusiveMaximum", 44), ("SchemaJudge$Keyword", 250, "minimum", 45), ("SchemaJudge$Keyword", 253, "exclusiveMinimum", 46), ("SchemaJudge$Keyword", 256, "multipleOf", 47), ("SchemaJudge$Keyword", 259, "maxLength", 48), ("SchemaJudge$Keyword", 262, "minLength", 49), ("SchemaJudge$Keyword", 265, "maxItems", 50), ("SchemaJudge$Keyword", 268, "minItems", 51), ("SchemaJudge$Keyword", 277, "maxProperties", 54), ("SchemaJudge$Keyword", 280, "minProperties", 55), ("SchemaJudge$Keyword", 283, "pattern", 56), ("SchemaJudge$Keyword", 292, "type", 59), ("SchemaJudge$Keyword", 295, "enum", 60), ("SchemaJudge$Keyword", 298, "const", 61), ("SchemaJudge$Keyword", 301, "uniqueItems", 62), ("SchemaJudge$Keyword", 304, "required", 63), ("SchemaJudge$Keyword", 307, "dependentRequired", 64), ("SchemaJudge$Keyword", 310, "$id", 65), ("SchemaJudge$Keyword", 313, "$dynamicRef", 66), ("SchemaJudge$Keyword", 316, "$dynamicAnchor", 67), ("SchemaJudge$Keyword", 319, "$vocabulary", 68)]
abbrev o_ns : Nat := 70
abbrev o_slen : List Nat := [22, 18, 4, 5, 4, 17, 9, 22, 6, 15, 13, 7, 6, 5, 6, 6, 7, 41, 29, 12, 16, 13, 9, 10, 13, 3, 2, 4, 4, 5, 8, 20, 13, 16, 21, 5, 5, 5, 11, 5, 10, 17, 16, 7, 16, 7, 16, 10, 9, 9, 8, 8, 11, 11, 13, 13, 7, 4, 7, 4, 4, 5, 11, 8, 17, 3, 11, 14, 11, 0]
abbrev o_sbyt : List (List Int32) := [[109, 111, 114, 101, 32, 116, 104, 97, 110, 32, 56, 44, 50, 48, 48, 32, 111, 99, 116, 101, 116, 115], [110, 111, 116, 32, 115, 111, 32, 109, 97, 110, 121, 32, 111, 99, 116, 101, 116, 115], [110, 117, 108, 108], [102, 97, 108, 115, 101], [116, 114, 117, 101], [116, 104, 101, 32, 116, 101, 120, 116, 32, 105, 115, 32, 119, 114, 111, 110, 103], [110, 111, 32, 115, 99, 104, 101, 109, 97], [48, 49, 50, 51, 52, 53, 54, 55, 56, 57, 97, 98, 99, 100, 101, 102, 65, 66, 67, 68, 69, 70], [100, 68, 119, 87, 115, 83], [94, 36, 92, 46, 42, 43, 63, 40, 41, 91, 93, 123, 125, 124, 47], [94, 36, 46, 42, 43, 63, 40, 41, 91, 93, 123, 125, 124], [98, 111, 111, 108, 101, 97, 110], [111, 98, 106, 101, 99, 116], [97, 114, 114, 97, 121], [110, 117, 109, 98, 101, 114], [115, 116, 114, 105, 110, 103], [105, 110, 116, 101, 103, 101, 114], [110, 111, 32, 105, 110, 115, 116, 97, 110, 99, 101, 44, 32, 111, 114, 32, 110, 111, 32, 115, 99, 104, 101, 109, 97, 32, 119, 105, 116, 104, 111, 117, 116, 32, 97, 32, 102, 97, 117, 108, 116], [116, 111, 111, 32, 109, 97, 110, 121, 32, 115, 99, 104, 101, 109, 97, 115, 44, 32, 111, 114, 32, 116, 111, 111, 32, 100, 101, 101, 112], [110, 111, 32, 115, 117, 99, 104, 32, 112, 97, 105, 114], [110, 111, 32, 115, 117, 99, 104, 32, 113, 117, 101, 115, 116, 105, 111, 110], [110, 111, 32, 115, 117, 99, 104, 32, 118, 97, 108, 117, 101], [110, 111, 32, 115, 116, 114, 105, 110, 103], [110, 111, 32, 112, 97, 116, 116, 101, 114, 110], [110, 111, 32, 115, 117, 99, 104, 32, 99, 111, 117, 110, 116], [110, 111, 116], [105, 102], [116, 104, 101, 110], [101, 108, 115, 101], [105, 116, 101, 109, 115], [99, 111, 110, 116, 97, 105, 110, 115], [97, 100, 100, 105, 116, 105, 111, 110, 97, 108, 80, 114, 111, 112, 101, 114, 116, 105, 101, 115], [112, 114, 111, 112, 101, 114, 116, 121, 78, 97, 109, 101, 115], [117, 110, 101, 118, 97, 108, 117, 97, 116, 101, 100, 73, 116, 101, 109, 115], [117, 110, 101, 118, 97, 108, 117, 97, 116, 101, 100, 80, 114, 111, 112, 101, 114, 116, 105, 101, 115], [97, 108, 108, 79, 102], [97, 110, 121, 79, 102], [111, 110, 101, 79, 102], [112, 114, 101, 102, 105, 120, 73, 116, 101, 109, 115], [36, 100, 101, 102, 115], [112, 114, 111, 112, 101, 114, 116, 105, 101, 115], [112, 97, 116, 116, 101, 114, 110, 80, 114, 111, 112, 101, 114, 116, 105, 101, 115], [100, 101, 112, 101, 110, 100, 101, 110, 116, 83, 99, 104, 101, 109, 97, 115], [109, 97, 120, 105, 109, 117, 109], [101, 120, 99, 108, 117, 115, 105, 118, 101, 77, 97, 120, 105, 109, 117, 109], [109, 105, 110, 105, 109, 117, 109], [101, 120, 99, 108, 117, 115, 105, 118, 101, 77, 105, 110, 105, 109, 117, 109], [109, 117, 108, 116, 105, 112, 108, 101, 79, 102], [109, 97, 120, 76, 101, 110, 103, 116, 104], [109, 105, 110, 76, 101, 110, 103, 116, 104], [109, 97, 120, 73, 116, 101, 109, 115], [109, 105, 110, 73, 116, 101, 109, 115], [109, 97, 120, 67, 111, 110, 116, 97, 105, 110, 115], [109, 105, 110, 67, 111, 110, 116, 97, 105, 110, 115], [109, 97, 120, 80, 114, 111, 112, 101, 114, 116, 105, 101, 115], [109, 105, 110, 80, 114, 111, 112, 101, 114, 116, 105, 101, 115], [112, 97, 116, 116, 101, 114, 110], [36, 114, 101, 102], [36, 97, 110, 99, 104, 111, 114], [116, 121, 112, 101], [101, 110, 117, 109], [99, 111, 110, 115, 116], [117, 110, 105, 113, 117, 101, 73, 116, 101, 109, 115], [114, 101, 113, 117, 105, 114, 101, 100], [100, 101, 112, 101, 110, 100, 101, 110, 116, 82, 101, 113, 117, 105, 114, 101, 100], [36, 105, 100], [36, 100, 121, 110, 97, 109, 105, 99, 82, 101, 102], [36, 100, 121, 110, 97, 109, 105, 99, 65, 110, 99, 104, 111, 114], [36, 118, 111, 99, 97, 98, 117, 108, 97, 114, 121], []]
def kw_str (k : Nat) : Nat := ([69, 25, 26, 27, 28, 29, 30, 31, 32, 33, 34, 35, 36, 37, 38, 39, 40, 41, 42, 43, 44, 45, 46, 47, 48, 49, 50, 51, 52, 53, 54, 55, 56, 57, 58, 59, 60, 61, 62, 63, 64, 65, 66, 67, 68] : List Nat).getD k 0
def o_sl (i : Nat) : Int32 := Int32.ofNat (o_slen.getD i 0)
def o_sa (i j : Nat) : Int32 := (o_sbyt.getD i []).getD j 0
def o_si (i : Nat) (c : Int32) : Int32 := if (o_sbyt.getD i []).contains c then Int32.ofNat ((o_sbyt.getD i []).findIdx (fun x => x == c)) else -1
abbrev o_kn : List String := ["OTHER", "NOT", "IF", "THEN", "ELSE", "ITEMS", "CONTAINS", "ADDITIONAL_PROPERTIES", "PROPERTY_NAMES", "UNEVALUATED_ITEMS", "UNEVALUATED_PROPERTIES", "ALL_OF", "ANY_OF", "ONE_OF", "PREFIX_ITEMS", "DEFS", "PROPERTIES", "PATTERN_PROPERTIES", "DEPENDENT_SCHEMAS", "MAXIMUM", "EXCLUSIVE_MAXIMUM", "MINIMUM", "EXCLUSIVE_MINIMUM", "MULTIPLE_OF", "MAX_LENGTH", "MIN_LENGTH", "MAX_ITEMS", "MIN_ITEMS", "MAX_CONTAINS", "MIN_CONTAINS", "MAX_PROPERTIES", "MIN_PROPERTIES", "PATTERN", "REF", "ANCHOR", "TYPE", "ENUM", "CONST", "UNIQUE_ITEMS", "REQUIRED", "DEPENDENT_REQUIRED", "ID", "DYNAMIC_REF", "DYNAMIC_ANCHOR", "VOCABULARY"]
def o_kb (k : Nat) : Bool := decide (k < 45)
def sw_Keyword (k : Nat) : Int32 := ([0, 9, 0, 0, 0, 4, 12, 6, 0, 7, 8, 0, 10, 11, 2, 0, 1, 5, 3, 17, 18, 19, 20, 16, 21, 24, 22, 25, 0, 0, 23, 26, 27, 0, 0, 13, 14, 15, 28, 29, 30, 0, 0, 0, 0] : List Int32).getD k 0
def F_SJ : u_T := fun k => match k with
  | 0 => ("SchemaJudge", "schemaText", "LSchemaJudge$Text;", true)
  | 1 => ("SchemaJudge", "instanceText", "LSchemaJudge$Text;", true)
  | 2 => ("SchemaJudge", "reader", "LSchemaJudge$Reader;", true)
  | 3 => ("SchemaJudge", "program", "LSchemaJudge$Program;", true)
  | 4 => ("SchemaJudge", "pattern", "LSchemaJudge$Pattern;", true)
  | 5 => ("SchemaJudge", "checker", "LSchemaJudge$Checker;", true)
  | 6 => ("SchemaJudge", "judge", "LSchemaJudge$Judge;", true)
  | _ => ("SchemaJudge", "wrongAt", "I", false)
def t_SJ : Nat → FieldType := fun k => match k with
  | 0 => (.object "SchemaJudge$Text")
  | 1 => (.object "SchemaJudge$Text")
  | 2 => (.object "SchemaJudge$Reader")
  | 3 => (.object "SchemaJudge$Program")
  | 4 => (.object "SchemaJudge$Pattern")
  | 5 => (.object "SchemaJudge$Checker")
  | 6 => (.object "SchemaJudge$Judge")
  | _ => .int
theorem n_SJ : ∀ a, a < 8 → ∀ b, b < 8 → a ≠ b → (F_SJ a).2.1 ≠ (F_SJ b).2.1 := by decide +kernel
theorem t_SJ_ok : ∀ k, k < 8 → parseFieldDescriptor (F_SJ k).2.2.1 = some (t_SJ k) := by decide +kernel
def F_Tx : u_T := fun k => match k with
  | 0 => ("SchemaJudge$Text", "kinds", "[I", true)
  | 1 => ("SchemaJudge$Text", "places", "[I", true)
  | 2 => ("SchemaJudge$Text", "sizes", "[I", true)
  | 3 => ("SchemaJudge$Text", "parents", "[I", true)
  | 4 => ("SchemaJudge$Text", "exponents", "[I", true)
  | 5 => ("SchemaJudge$Text", "starts", "[I", true)
  | 6 => ("SchemaJudge$Text", "afters", "[I", true)
  | 7 => ("SchemaJudge$Text", "slots", "[I", true)
  | 8 => ("SchemaJudge$Text", "negatives", "[Z", true)
  | 9 => ("SchemaJudge$Text", "cells", "[I", true)
  | 10 => ("SchemaJudge$Text", "total", "I", false)
  | 11 => ("SchemaJudge$Text", "used", "I", false)
  | _ => ("SchemaJudge$Text", "characters", "I", false)
def t_Tx : Nat → FieldType := fun k => match k with
  | 0 => (.array .int)
  | 1 => (.array .int)
  | 2 => (.array .int)
  | 3 => (.array .int)
  | 4 => (.array .int)
  | 5 => (.array .int)
  | 6 => (.array .int)
  | 7 => (.array .int)
  | 8 => (.array .boolean)
  | 9 => (.array .int)
  | 10 => .int
  | 11 => .int
  | _ => .int
theorem n_Tx : ∀ a, a < 13 → ∀ b, b < 13 → a ≠ b → (F_Tx a).2.1 ≠ (F_Tx b).2.1 := by decide +kernel
theorem t_Tx_ok : ∀ k, k < 13 → parseFieldDescriptor (F_Tx k).2.2.1 = some (t_Tx k) := by decide +kernel
def F_Rd : u_T := fun k => match k with
  | 0 => ("SchemaJudge$Reader", "words", "[I", true)
  | 1 => ("SchemaJudge$Reader", "wordCount", "I", false)
  | 2 => ("SchemaJudge$Reader", "text", "LSchemaJudge$Text;", false)
  | 3 => ("SchemaJudge$Reader", "position", "I", false)
  | 4 => ("SchemaJudge$Reader", "limit", "I", false)
  | _ => ("SchemaJudge$Reader", "wrongPlace", "I", false)
def t_Rd : Nat → FieldType := fun k => match k with
  | 0 => (.array .int)
  | 1 => .int
  | 2 => (.object "SchemaJudge$Text")
  | 3 => .int
  | 4 => .int
  | _ => .int
theorem n_Rd : ∀ a, a < 6 → ∀ b, b < 6 → a ≠ b → (F_Rd a).2.1 ≠ (F_Rd b).2.1 := by decide +kernel
theorem t_Rd_ok : ∀ k, k < 6 → parseFieldDescriptor (F_Rd k).2.2.1 = some (t_Rd k) := by decide +kernel
def F_Pg : u_T := fun k => match k with
  | 0 => ("SchemaJudge$Program", "operations", "[I", true)
  | 1 => ("SchemaJudge$Program", "arguments", "[I", true)
  | 2 => ("SchemaJudge$Program", "length", "I", false)
  | 3 => ("SchemaJudge$Program", "sets", "[I", true)
  | 4 => ("SchemaJudge$Program", "setsUsed", "I", false)
  | 5 => ("SchemaJudge$Program", "rounds", "[I", true)
  | 6 => ("SchemaJudge$Program", "stack", "[I", true)
  | 7 => ("SchemaJudge$Program", "top", "I", false)
  | 8 => ("SchemaJudge$Program", "waiting", "[I", true)
  | 9 => ("SchemaJudge$Program", "waitingCount", "I", false)
  | _ => ("SchemaJudge$Program", "moved", "[I", true)
def t_Pg : Nat → FieldType := fun k => match k with
  | 0 => (.array .int)
  | 1 => (.array .int)
  | 2 => .int
  | 3 => (.array .int)
  | 4 => .int
  | 5 => (.array .int)
  | 6 => (.array .int)
  | 7 => .int
  | 8 => (.array .int)
  | 9 => .int
  | _ => (.array .int)
theorem n_Pg : ∀ a, a < 11 → ∀ b, b < 11 → a ≠ b → (F_Pg a).2.1 ≠ (F_Pg b).2.1 := by decide +kernel
theorem t_Pg_ok : ∀ k, k < 11 → parseFieldDescriptor (F_Pg k).2.2.1 = some (t_Pg k) := by decide +kernel
def F_Pt : u_T := fun k => match k with
  | 0 => ("SchemaJudge$Pattern", "program", "LSchemaJudge$Program;", true)
  | 1 => ("SchemaJudge$Pattern", "tokens", "[I", true)
  | 2 => ("SchemaJudge$Pattern", "characterCount", "I", false)
  | 3 => ("SchemaJudge$Pattern", "tokenCount", "I", false)
  | 4 => ("SchemaJudge$Pattern", "position", "I", false)
  | 5 => ("SchemaJudge$Pattern", "total", "I", false)
  | 6 => ("SchemaJudge$Pattern", "least", "I", false)
  | 7 => ("SchemaJudge$Pattern", "most", "I", false)
  | 8 => ("SchemaJudge$Pattern", "depth", "I", false)
  | 9 => ("SchemaJudge$Pattern", "blockStarts", "[I", true)
  | 10 => ("SchemaJudge$Pattern", "branchStarts", "[I", true)
  | 11 => ("SchemaJudge$Pattern", "jumps", "[I", true)
  | _ => ("SchemaJudge$Pattern", "sizesBefore", "[I", true)
def t_Pt : Nat → FieldType := fun k => match k with
  | 0 => (.object "SchemaJudge$Program")
  | 1 => (.array .int)
  | 2 => .int
  | 3 => .int
  | 4 => .int
  | 5 => .int
  | 6 => .int
  | 7 => .int
  | 8 => .int
  | 9 => (.array .int)
  | 10 => (.array .int)
  | 11 => (.array .int)
  | _ => (.array .int)
theorem n_Pt : ∀ a, a < 13 → ∀ b, b < 13 → a ≠ b → (F_Pt a).2.1 ≠ (F_Pt b).2.1 := by decide +kernel
theorem t_Pt_ok : ∀ k, k < 13 → parseFieldDescriptor (F_Pt k).2.2.1 = some (t_Pt k) := by decide +kernel
def F_Mk : u_T := fun k => match k with
  | 0 => ("SchemaJudge$Marks", "text", "LSchemaJudge$Text;", true)
  | 1 => ("SchemaJudge$Marks", "keywords", "[I", true)
  | 2 => ("SchemaJudge$Marks", "schemas", "[Z", true)
  | _ => ("SchemaJudge$Marks", "targets", "[I", true)
def t_Mk : Nat → FieldType := fun k => match k with
  | 0 => (.object "SchemaJudge$Text")
  | 1 => (.array .int)
  | 2 => (.array .boolean)
  | _ => (.array .int)
theorem n_Mk : ∀ a, a < 4 → ∀ b, b < 4 → a ≠ b → (F_Mk a).2.1 ≠ (F_Mk b).2.1 := by decide +kernel
theorem t_Mk_ok : ∀ k, k < 4 → parseFieldDescriptor (F_Mk k).2.2.1 = some (t_Mk k) := by decide +kernel
def F_Lk : u_T := fun k => match k with
  | 0 => ("SchemaJudge$Links", "text", "LSchemaJudge$Text;", true)
  | 1 => ("SchemaJudge$Links", "marks", "LSchemaJudge$Marks;", true)
  | 2 => ("SchemaJudge$Links", "characters", "[I", true)
  | 3 => ("SchemaJudge$Links", "length", "I", false)
  | _ => ("SchemaJudge$Links", "position", "I", false)
def t_Lk : Nat → FieldType := fun k => match k with
  | 0 => (.object "SchemaJudge$Text")
  | 1 => (.object "SchemaJudge$Marks")
  | 2 => (.array .int)
  | 3 => .int
  | _ => .int
theorem n_Lk : ∀ a, a < 5 → ∀ b, b < 5 → a ≠ b → (F_Lk a).2.1 ≠ (F_Lk b).2.1 := by decide +kernel
theorem t_Lk_ok : ∀ k, k < 5 → parseFieldDescriptor (F_Lk k).2.2.1 = some (t_Lk k) := by decide +kernel
def F_Ck : u_T := fun k => match k with
  | 0 => ("SchemaJudge$Checker", "text", "LSchemaJudge$Text;", true)
  | 1 => ("SchemaJudge$Checker", "marks", "LSchemaJudge$Marks;", true)
  | 2 => ("SchemaJudge$Checker", "pattern", "LSchemaJudge$Pattern;", true)
  | 3 => ("SchemaJudge$Checker", "links", "LSchemaJudge$Links;", true)
  | 4 => ("SchemaJudge$Checker", "aimedAt", "[Z", true)
  | 5 => ("SchemaJudge$Checker", "reached", "[I", true)
  | 6 => ("SchemaJudge$Checker", "reachedFrom", "[I", true)
  | 7 => ("SchemaJudge$Checker", "reachedCount", "I", false)
  | 8 => ("SchemaJudge$Checker", "found", "I", false)
  | _ => ("SchemaJudge$Checker", "foundAt", "I", false)
def t_Ck : Nat → FieldType := fun k => match k with
  | 0 => (.object "SchemaJudge$Text")
  | 1 => (.object "SchemaJudge$Marks")
  | 2 => (.object "SchemaJudge$Pattern")
  | 3 => (.object "SchemaJudge$Links")
  | 4 => (.array .boolean)
  | 5 => (.array .int)
  | 6 => (.array .int)
  | 7 => .int
  | 8 => .int
  | _ => .int
theorem n_Ck : ∀ a, a < 10 → ∀ b, b < 10 → a ≠ b → (F_Ck a).2.1 ≠ (F_Ck b).2.1 := by decide +kernel
theorem t_Ck_ok : ∀ k, k < 10 → parseFieldDescriptor (F_Ck k).2.2.1 = some (t_Ck k) := by decide +kernel
def F_Jd : u_T := fun k => match k with
  | 0 => ("SchemaJudge$Judge", "text", "LSchemaJudge$Text;", true)
  | 1 => ("SchemaJudge$Judge", "marks", "LSchemaJudge$Marks;", true)
  | 2 => ("SchemaJudge$Judge", "instance", "LSchemaJudge$Text;", true)
  | 3 => ("SchemaJudge$Judge", "pattern", "LSchemaJudge$Pattern;", true)
  | 4 => ("SchemaJudge$Judge", "program", "LSchemaJudge$Program;", true)
  | 5 => ("SchemaJudge$Judge", "division", "LSchemaJudge$LongDivision;", true)
  | 6 => ("SchemaJudge$Judge", "kept", "LSchemaJudge$Pairs;", true)
  | 7 => ("SchemaJudge$Judge", "evaluated", "[J", true)
  | 8 => ("SchemaJudge$Judge", "silences", "I", false)
  | 9 => ("SchemaJudge$Judge", "over", "Z", false)
  | 10 => ("SchemaJudge$Judge", "schemas", "I", false)
  | _ => ("SchemaJudge$Judge", "deepest", "I", false)
def t_Jd : Nat → FieldType := fun k => match k with
  | 0 => (.object "SchemaJudge$Text")
  | 1 => (.object "SchemaJudge$Marks")
  | 2 => (.object "SchemaJudge$Text")
  | 3 => (.object "SchemaJudge$Pattern")
  | 4 => (.object "SchemaJudge$Program")
  | 5 => (.object "SchemaJudge$LongDivision")
  | 6 => (.object "SchemaJudge$Pairs")
  | 7 => (.array .long)
  | 8 => .int
  | 9 => .boolean
  | 10 => .int
  | _ => .int
theorem n_Jd : ∀ a, a < 12 → ∀ b, b < 12 → a ≠ b → (F_Jd a).2.1 ≠ (F_Jd b).2.1 := by decide +kernel
theorem t_Jd_ok : ∀ k, k < 12 → parseFieldDescriptor (F_Jd k).2.2.1 = some (t_Jd k) := by decide +kernel
def F_Ld : u_T := fun k => match k with
  | 0 => ("SchemaJudge$LongDivision", "divisor", "[J", true)
  | _ => ("SchemaJudge$LongDivision", "rest", "[J", true)
def t_Ld : Nat → FieldType := fun k => match k with
  | 0 => (.array .long)
  | _ => (.array .long)
theorem n_Ld : ∀ a, a < 2 → ∀ b, b < 2 → a ≠ b → (F_Ld a).2.1 ≠ (F_Ld b).2.1 := by decide +kernel
theorem t_Ld_ok : ∀ k, k < 2 → parseFieldDescriptor (F_Ld k).2.2.1 = some (t_Ld k) := by decide +kernel
def F_Pr : u_T := fun k => match k with
  | 0 => ("SchemaJudge$Pairs", "values", "[I", true)
  | 1 => ("SchemaJudge$Pairs", "keywords", "[I", true)
  | _ => ("SchemaJudge$Pairs", "size", "I", false)
def t_Pr : Nat → FieldType := fun k => match k with
  | 0 => (.array .int)
  | 1 => (.array .int)
  | _ => .int
theorem n_Pr : ∀ a, a < 3 → ∀ b, b < 3 → a ≠ b → (F_Pr a).2.1 ≠ (F_Pr b).2.1 := by decide +kernel
theorem t_Pr_ok : ∀ k, k < 3 → parseFieldDescriptor (F_Pr k).2.2.1 = some (t_Pr k) := by decide +kernel
abbrev o_cls : List vw_C := [("SchemaJudge", F_SJ, 8), ("SchemaJudge$Text", F_Tx, 13), ("SchemaJudge$Reader", F_Rd, 6), ("SchemaJudge$Program", F_Pg, 11), ("SchemaJudge$Pattern", F_Pt, 13), ("SchemaJudge$Marks", F_Mk, 4), ("SchemaJudge$Links", F_Lk, 5), ("SchemaJudge$Checker", F_Ck, 10), ("SchemaJudge$Judge", F_Jd, 12), ("SchemaJudge$LongDivision", F_Ld, 2), ("SchemaJudge$Pairs", F_Pr, 3)]
abbrev o_tys (ca : Nat → ClassId) : List (ClassId × FieldType) := [(ca 0, .int), (ca 1, .int), (ca 2, .int), (ca 3, .int), (ca 4, .int), (ca 5, .int), (ca 6, .int), (ca 7, .int), (ca 8, .boolean), (ca 9, .int), (ca 10, .int), (ca 11, .int), (ca 12, .int), (ca 13, .int), (ca 14, .int), (ca 15, .int), (ca 16, .int), (ca 17, .int), (ca 18, .boolean), (ca 19, .int), (ca 20, .int), (ca 21, .int), (ca 22, .int), (ca 23, .int), (ca 24, .int), (ca 25, .int), (ca 26, .int), (ca 27, .int), (ca 28, .int), (ca 29, .int), (ca 30, .int), (ca 31, .int), (ca 32, .int), (ca 33, .int), (ca 34, .boolean), (ca 35, .int), (ca 36, .int), (ca 37, .boolean), (ca 38, .int), (ca 39, .int), (ca 40, .long), (ca 41, .long), (ca 42, .long), (ca 43, .int), (ca 44, .int)]
def o_cw (ad : Nat → Nat) (ca : Nat → ClassId) (rt : Nat) (Sj : SSJ) (T0 : STx) (T1 : STx) (Rd : SRd) (Pg : SPg) (Pt : SPt) (Mk : SMk) (Lk : SLk) (Ck : SCk) (Jd : SJd) (Ld : SLd) (Pr : SPr) : va_W := [(ad 0, .inr (0, [.ref (ad 1), .ref (ad 12), .ref (ad 23), .ref (ad 25), .ref (ad 33), .ref (ad 45), .ref (ad 49), .int (SJ_wrongAt Sj)])),
  (ad 1, .inr (1, [.ref (ad 2), .ref (ad 3), .ref (ad 4), .ref (ad 5), .ref (ad 6), .ref (ad 7), .ref (ad 8), .ref (ad 9), .ref (ad 10), .ref (ad 11), .int (Tx_total T0), .int (Tx_used T0), .int (Tx_characters T0)])),
  (ad 2, .inl (ca 0, 1000, .inl (Tx_kinds T0))),
  (ad 3, .inl (ca 1, 1000, .inl (Tx_places T0))),
  (ad 4, .inl (ca 2, 1000, .inl (Tx_sizes T0))),
  (ad 5, .inl (ca 3, 1000, .inl (Tx_parents T0))),
  (ad 6, .inl (ca 4, 1000, .inl (Tx_exponents T0))),
  (ad 7, .inl (ca 5, 1000, .inl (Tx_starts T0))),
  (ad 8, .inl (ca 6, 1000, .inl (Tx_afters T0))),
  (ad 9, .inl (ca 7, 1000, .inl (Tx_slots T0))),
  (ad 10, .inl (ca 8, 1000, .inl (Tx_negatives T0))),
  (ad 11, .inl (ca 9, 8192, .inl (Tx_cells T0))),
  (ad 12, .inr (1, [.ref (ad 13), .ref (ad 14), .ref (ad 15), .ref (ad 16), .ref (ad 17), .ref (ad 18), .ref (ad 19), .ref (ad 20), .ref (ad 21), .ref (ad 22), .int (Tx_total T1), .int (Tx_used T1), .int (Tx_characters T1)])),
  (ad 13, .inl (ca 10, 1000, .inl (Tx_kinds T1))),
  (ad 14, .inl (ca 11, 1000, .inl (Tx_places T1))),
  (ad 15, .inl (ca 12, 1000, .inl (Tx_sizes T1))),
  (ad 16, .inl (ca 13, 1000, .inl (Tx_parents T1))),
  (ad 17, .inl (ca 14, 1000, .inl (Tx_exponents T1))),
  (ad 18, .inl (ca 15, 1000, .inl (Tx_starts T1))),
  (ad 19, .inl (ca 16, 1000, .inl (Tx_afters T1))),
  (ad 20, .inl (ca 17, 1000, .inl (Tx_slots T1))),
  (ad 21, .inl (ca 18, 1000, .inl (Tx_negatives T1))),
  (ad 22, .inl (ca 19, 8192, .inl (Tx_cells T1))),
  (ad 23, .inr (2, [.ref (ad 24), .int (Rd_wordCount Rd), .ref (ad rt), .int (Rd_position Rd), .int (Rd_limit Rd), .int (Rd_wrongPlace Rd)])),
  (ad 24, .inl (ca 20, 2050, .inl (Rd_words Rd))),
  (ad 25, .inr (3, [.ref (ad 26), .ref (ad 27), .int (Pg_length Pg), .ref (ad 28), .int (Pg_setsUsed Pg), .ref (ad 29), .ref (ad 30), .int (Pg_top Pg), .ref (ad 31), .int (Pg_waitingCount Pg), .ref (ad 32)])),
  (ad 26, .inl (ca 21, 1300, .inl (Pg_operations Pg))),
  (ad 27, .inl (ca 22, 1300, .inl (Pg_arguments Pg))),
  (ad 28, .inl (ca 23, 8000, .inl (Pg_sets Pg))),
  (ad 29, .inl (ca 24, 1300, .inl (Pg_rounds Pg))),
  (ad 30, .inl (ca 25, 1300, .inl (Pg_stack Pg))),
  (ad 31, .inl (ca 26, 1300, .inl (Pg_waiting Pg))),
  (ad 32, .inl (ca 27, 1300, .inl (Pg_moved Pg))),
  (ad 33, .inr (4, [.ref (ad 25), .ref (ad 34), .int (Pt_characterCount Pt), .int (Pt_tokenCount Pt), .int (Pt_position Pt), .int (Pt_total Pt), .int (Pt_least Pt), .int (Pt_most Pt), .int (Pt_depth Pt), .ref (ad 35), .ref (ad 36), .ref (ad 37), .ref (ad 38)])),
  (ad 34, .inl (ca 28, 4000, .inl (Pt_tokens Pt))),
  (ad 35, .inl (ca 29, 31, .inl (Pt_blockStarts Pt))),
  (ad 36, .inl (ca 30, 31, .inl (Pt_branchStarts Pt))),
  (ad 37, .inl (ca 31, 31, .inl (Pt_jumps Pt))),
  (ad 38, .inl (ca 32, 31, .inl (Pt_sizesBefore Pt))),
  (ad 39, .inr (5, [.ref (ad 1), .ref (ad 40), .ref (ad 41), .ref (ad 42)])),
  (ad 40, .inl (ca 33, 1000, .inl (Mk_keywords Mk))),
  (ad 41, .inl (ca 34, 1000, .inl (Mk_schemas Mk))),
  (ad 42, .inl (ca 35, 1000, .inl (Mk_targets Mk))),
  (ad 43, .inr (6, [.ref (ad 1), .ref (ad 39), .ref (ad 44), .int (Lk_length Lk), .int (Lk_position Lk)])),
  (ad 44, .inl (ca 36, 4000, .inl (Lk_characters Lk))),
  (ad 45, .inr (7, [.ref (ad 1), .ref (ad 39), .ref (ad 33), .ref (ad 43), .ref (ad 46), .ref (ad 47), .ref (ad 48), .int (Ck_reachedCount Ck), .int (Ck_found Ck), .int (Ck_foundAt Ck)])),
  (ad 46, .inl (ca 37, 1000, .inl (Ck_aimedAt Ck))),
  (ad 47, .inl (ca 38, 1000, .inl (Ck_reached Ck))),
  (ad 48, .inl (ca 39, 1000, .inl (Ck_reachedFrom Ck))),
  (ad 49, .inr (8, [.ref (ad 1), .ref (ad 39), .ref (ad 12), .ref (ad 33), .ref (ad 25), .ref (ad 51), .ref (ad 54), .ref (ad 50), .int (Jd_silences Jd), .int (Jd_over Jd), .int (Jd_schemas Jd), .int (Jd_deepest Jd)])),
  (ad 50, .inl (ca 40, 102, .inr (.inl (Jd_evaluated Jd)))),
  (ad 51, .inr (9, [.ref (ad 52), .ref (ad 53)])),
  (ad 52, .inl (ca 41, 7, .inr (.inl (Ld_divisor Ld)))),
  (ad 53, .inl (ca 42, 7, .inr (.inl (Ld_rest Ld)))),
  (ad 54, .inr (10, [.ref (ad 55), .ref (ad 56), .int (Pr_size Pr)])),
  (ad 55, .inl (ca 43, 300, .inl (Pr_values Pr))),
  (ad 56, .inl (ca 44, 300, .inl (Pr_keywords Pr)))]
theorem cw_0 {ad : Nat → Nat} {ca : Nat → ClassId} {rt : Nat} {Sj : SSJ} {T0 : STx} {T1 : STx} {Rd : SRd} {Pg : SPg} {Pt : SPt} {Mk : SMk} {Lk : SLk} {Ck : SCk} {Jd : SJd} {Ld : SLd} {Pr : SPr} : (o_cw ad ca rt Sj T0 T1 Rd Pg Pt Mk Lk Ck Jd Ld Pr)[0]? = some (ad 0, .inr (0, [.ref (ad 1), .ref (ad 12), .ref (ad 23), .ref (ad 25), .ref (ad 33), .ref (ad 45), .ref (ad 49), .int (SJ_wrongAt Sj)])) := rfl
theorem cw_1 {ad : Nat → Nat} {ca : Nat → ClassId} {rt : Nat} {Sj : SSJ} {T0 : STx} {T1 : STx} {Rd : SRd} {Pg : SPg} {Pt : SPt} {Mk : SMk} {Lk : SLk} {Ck : SCk} {Jd : SJd} {Ld : SLd} {Pr : SPr} : (o_cw ad ca rt Sj T0 T1 Rd Pg Pt Mk Lk Ck Jd Ld Pr)[1]? = some (ad 1, .inr (1, [.ref (ad 2), .ref (ad 3), .ref (ad 4), .ref (ad 5), .ref (ad 6), .ref (ad 7), .ref (ad 8), .ref (ad 9), .ref (ad 10), .ref (ad 11), .int (Tx_total T0), .int (Tx_used T0), .int (Tx_characters T0)])) := rfl
theorem cw_2 {ad : Nat → Nat} {ca : Nat → ClassId} {rt : Nat} {Sj : SSJ} {T0 : STx} {T1 : STx} {Rd : SRd} {Pg : SPg} {Pt : SPt} {Mk : SMk} {Lk : SLk} {Ck : SCk} {Jd : SJd} {Ld : SLd} {Pr : SPr} : (o_cw ad ca rt Sj T0 T1 Rd Pg Pt Mk Lk Ck Jd Ld Pr)[2]? = some (ad 2, .inl (ca 0, 1000, .inl (Tx_kinds T0))) := rfl
theorem cw_3 {ad : Nat → Nat} {ca : Nat → ClassId} {rt : Nat} {Sj : SSJ} {T0 : STx} {T1 : STx} {Rd : SRd} {Pg : SPg} {Pt : SPt} {Mk : SMk} {Lk : SLk} {Ck : SCk} {Jd : SJd} {Ld : SLd} {Pr : SPr} : (o_cw ad ca rt Sj T0 T1 Rd Pg Pt Mk Lk Ck Jd Ld Pr)[3]? = some (ad 3, .inl (ca 1, 1000, .inl (Tx_places T0))) := rfl
theorem cw_4 {ad : Nat → Nat} {ca : Nat → ClassId} {rt : Nat} {Sj : SSJ} {T0 : STx} {T1 : STx} {Rd : SRd} {Pg : SPg} {Pt : SPt} {Mk : SMk} {Lk : SLk} {Ck : SCk} {Jd : SJd} {Ld : SLd} {Pr : SPr} : (o_cw ad ca rt Sj T0 T1 Rd Pg Pt Mk Lk Ck Jd Ld Pr)[4]? = some (ad 4, .inl (ca 2, 1000, .inl (Tx_sizes T0))) := rfl
theorem cw_5 {ad : Nat → Nat} {ca : Nat → ClassId} {rt : Nat} {Sj : SSJ} {T0 : STx} {T1 : STx} {Rd : SRd} {Pg : SPg} {Pt : SPt} {Mk : SMk} {Lk : SLk} {Ck : SCk} {Jd : SJd} {Ld : SLd} {Pr : SPr} : (o_cw ad ca rt Sj T0 T1 Rd Pg Pt Mk Lk Ck Jd Ld Pr)[5]? = some (ad 5, .inl (ca 3, 1000, .inl (Tx_parents T0))) := rfl
theorem cw_6 {ad : Nat → Nat} {ca : Nat → ClassId} {rt : Nat} {Sj : SSJ} {T0 : STx} {T1 : STx} {Rd : SRd} {Pg : SPg} {Pt : SPt} {Mk : SMk} {Lk : SLk} {Ck : SCk} {Jd : SJd} {Ld : SLd} {Pr : SPr} : (o_cw ad ca rt Sj T0 T1 Rd Pg Pt Mk Lk Ck Jd Ld Pr)[6]? = some (ad 6, .inl (ca 4, 1000, .inl (Tx_exponents T0))) := rfl
theorem cw_7 {ad : Nat → Nat} {ca : Nat → ClassId} {rt : Nat} {Sj : SSJ} {T0 : STx} {T1 : STx} {Rd : SRd} {Pg : SPg} {Pt : SPt} {Mk : SMk} {Lk : SLk} {Ck : SCk} {Jd : SJd} {Ld : SLd} {Pr : SPr} : (o_cw ad ca rt Sj T0 T1 Rd Pg Pt Mk Lk Ck Jd Ld Pr)[7]? = some (ad 7, .inl (ca 5, 1000, .inl (Tx_starts T0))) := rfl
theorem cw_8 {ad : Nat → Nat} {ca : Nat → ClassId} {rt : Nat} {Sj : SSJ} {T0 : STx} {T1 : STx} {Rd : SRd} {Pg : SPg} {Pt : SPt} {Mk : SMk} {Lk : SLk} {Ck : SCk} {Jd : SJd} {Ld : SLd} {Pr : SPr} : (o_cw ad ca rt Sj T0 T1 Rd Pg Pt Mk Lk Ck Jd Ld Pr)[8]? = some (ad 8, .inl (ca 6, 1000, .inl (Tx_afters T0))) := rfl
theorem cw_9 {ad : Nat → Nat} {ca : Nat → ClassId} {rt : Nat} {Sj : SSJ} {T0 : STx} {T1 : STx} {Rd : SRd} {Pg : SPg} {Pt : SPt} {Mk : SMk} {Lk : SLk} {Ck : SCk} {Jd : SJd} {Ld : SLd} {Pr : SPr} : (o_cw ad ca rt Sj T0 T1 Rd Pg Pt Mk Lk Ck Jd Ld Pr)[9]? = some (ad 9, .inl (ca 7, 1000, .inl (Tx_slots T0))) := rfl
theorem cw_10 {ad : Nat → Nat} {ca : Nat → ClassId} {rt : Nat} {Sj : SSJ} {T0 : STx} {T1 : STx} {Rd : SRd} {Pg : SPg} {Pt : SPt} {Mk : SMk} {Lk : SLk} {Ck : SCk} {Jd : SJd} {Ld : SLd} {Pr : SPr} : (o_cw ad ca rt Sj T0 T1 Rd Pg Pt Mk Lk Ck Jd Ld Pr)[10]? = some (ad 10, .inl (ca 8, 1000, .inl (Tx_negatives T0))) := rfl
theorem cw_11 {ad : Nat → Nat} {ca : Nat → ClassId} {rt : Nat} {Sj : SSJ} {T0 : STx} {T1 : STx} {Rd : SRd} {Pg : SPg} {Pt : SPt} {Mk : SMk} {Lk : SLk} {Ck : SCk} {Jd : SJd} {Ld : SLd} {Pr : SPr} : (o_cw ad ca rt Sj T0 T1 Rd Pg Pt Mk Lk Ck Jd Ld Pr)[11]? = some (ad 11, .inl (ca 9, 8192, .inl (Tx_cells T0))) := rfl
theorem cw_12 {ad : Nat → Nat} {ca : Nat → ClassId} {rt : Nat} {Sj : SSJ} {T0 : STx} {T1 : STx} {Rd : SRd} {Pg : SPg} {Pt : SPt} {Mk : SMk} {Lk : SLk} {Ck : SCk} {Jd : SJd} {Ld : SLd} {Pr : SPr} : (o_cw ad ca rt Sj T0 T1 Rd Pg Pt Mk Lk Ck Jd Ld Pr)[12]? = some (ad 12, .inr (1, [.ref (ad 13), .ref (ad 14), .ref (ad 15), .ref (ad 16), .ref (ad 17), .ref (ad 18), .ref (ad 19), .ref (ad 20), .ref (ad 21), .ref (ad 22), .int (Tx_total T1), .int (Tx_used T1), .int (Tx_characters T1)])) := rfl
theorem cw_13 {ad : Nat → Nat} {ca : Nat → ClassId} {rt : Nat} {Sj : SSJ} {T0 : STx} {T1 : STx} {Rd : SRd} {Pg : SPg} {Pt : SPt} {Mk : SMk} {Lk : SLk} {Ck : SCk} {Jd : SJd} {Ld : SLd} {Pr : SPr} : (o_cw ad ca rt Sj T0 T1 Rd Pg Pt Mk Lk Ck Jd Ld Pr)[13]? = some (ad 13, .inl (ca 10, 1000, .inl (Tx_kinds T1))) := rfl
theorem cw_14 {ad : Nat → Nat} {ca : Nat → ClassId} {rt : Nat} {Sj : SSJ} {T0 : STx} {T1 : STx} {Rd : SRd} {Pg : SPg} {Pt : SPt} {Mk : SMk} {Lk : SLk} {Ck : SCk} {Jd : SJd} {Ld : SLd} {Pr : SPr} : (o_cw ad ca rt Sj T0 T1 Rd Pg Pt Mk Lk Ck Jd Ld Pr)[14]? = some (ad 14, .inl (ca 11, 1000, .inl (Tx_places T1))) := rfl
theorem cw_15 {ad : Nat → Nat} {ca : Nat → ClassId} {rt : Nat} {Sj : SSJ} {T0 : STx} {T1 : STx} {Rd : SRd} {Pg : SPg} {Pt : SPt} {Mk : SMk} {Lk : SLk} {Ck : SCk} {Jd : SJd} {Ld : SLd} {Pr : SPr} : (o_cw ad ca rt Sj T0 T1 Rd Pg Pt Mk Lk Ck Jd Ld Pr)[15]? = some (ad 15, .inl (ca 12, 1000, .inl (Tx_sizes T1))) := rfl
theorem cw_16 {ad : Nat → Nat} {ca : Nat → ClassId} {rt : Nat} {Sj : SSJ} {T0 : STx} {T1 : STx} {Rd : SRd} {Pg : SPg} {Pt : SPt} {Mk : SMk} {Lk : SLk} {Ck : SCk} {Jd : SJd} {Ld : SLd} {Pr : SPr} : (o_cw ad ca rt Sj T0 T1 Rd Pg Pt Mk Lk Ck Jd Ld Pr)[16]? = some (ad 16, .inl (ca 13, 1000, .inl (Tx_parents T1))) := rfl
theorem cw_17 {ad : Nat → Nat} {ca : Nat → ClassId} {rt : Nat} {Sj : SSJ} {T0 : STx} {T1 : STx} {Rd : SRd} {Pg : SPg} {Pt : SPt} {Mk : SMk} {Lk : SLk} {Ck : SCk} {Jd : SJd} {Ld : SLd} {Pr : SPr} : (o_cw ad ca rt Sj T0 T1 Rd Pg Pt Mk Lk Ck Jd Ld Pr)[17]? = some (ad 17, .inl (ca 14, 1000, .inl (Tx_exponents T1))) := rfl
theorem cw_18 {ad : Nat → Nat} {ca : Nat → ClassId} {rt : Nat} {Sj : SSJ} {T0 : STx} {T1 : STx} {Rd : SRd} {Pg : SPg} {Pt : SPt} {Mk : SMk} {Lk : SLk} {Ck : SCk} {Jd : SJd} {Ld : SLd} {Pr : SPr} : (o_cw ad ca rt Sj T0 T1 Rd Pg Pt Mk Lk Ck Jd Ld Pr)[18]? = some (ad 18, .inl (ca 15, 1000, .inl (Tx_starts T1))) := rfl
theorem cw_19 {ad : Nat → Nat} {ca : Nat → ClassId} {rt : Nat} {Sj : SSJ} {T0 : STx} {T1 : STx} {Rd : SRd} {Pg : SPg} {Pt : SPt} {Mk : SMk} {Lk : SLk} {Ck : SCk} {Jd : SJd} {Ld : SLd} {Pr : SPr} : (o_cw ad ca rt Sj T0 T1 Rd Pg Pt Mk Lk Ck Jd Ld Pr)[19]? = some (ad 19, .inl (ca 16, 1000, .inl (Tx_afters T1))) := rfl
theorem cw_20 {ad : Nat → Nat} {ca : Nat → ClassId} {rt : Nat} {Sj : SSJ} {T0 : STx} {T1 : STx} {Rd : SRd} {Pg : SPg} {Pt : SPt} {Mk : SMk} {Lk : SLk} {Ck : SCk} {Jd : SJd} {Ld : SLd} {Pr : SPr} : (o_cw ad ca rt Sj T0 T1 Rd Pg Pt Mk Lk Ck Jd Ld Pr)[20]? = some (ad 20, .inl (ca 17, 1000, .inl (Tx_slots T1))) := rfl
theorem cw_21 {ad : Nat → Nat} {ca : Nat → ClassId} {rt : Nat} {Sj : SSJ} {T0 : STx} {T1 : STx} {Rd : SRd} {Pg : SPg} {Pt : SPt} {Mk : SMk} {Lk : SLk} {Ck : SCk} {Jd : SJd} {Ld : SLd} {Pr : SPr} : (o_cw ad ca rt Sj T0 T1 Rd Pg Pt Mk Lk Ck Jd Ld Pr)[21]? = some (ad 21, .inl (ca 18, 1000, .inl (Tx_negatives T1))) := rfl
theorem cw_22 {ad : Nat → Nat} {ca : Nat → ClassId} {rt : Nat} {Sj : SSJ} {T0 : STx} {T1 : STx} {Rd : SRd} {Pg : SPg} {Pt : SPt} {Mk : SMk} {Lk : SLk} {Ck : SCk} {Jd : SJd} {Ld : SLd} {Pr : SPr} : (o_cw ad ca rt Sj T0 T1 Rd Pg Pt Mk Lk Ck Jd Ld Pr)[22]? = some (ad 22, .inl (ca 19, 8192, .inl (Tx_cells T1))) := rfl
theorem cw_23 {ad : Nat → Nat} {ca : Nat → ClassId} {rt : Nat} {Sj : SSJ} {T0 : STx} {T1 : STx} {Rd : SRd} {Pg : SPg} {Pt : SPt} {Mk : SMk} {Lk : SLk} {Ck : SCk} {Jd : SJd} {Ld : SLd} {Pr : SPr} : (o_cw ad ca rt Sj T0 T1 Rd Pg Pt Mk Lk Ck Jd Ld Pr)[23]? = some (ad 23, .inr (2, [.ref (ad 24), .int (Rd_wordCount Rd), .ref (ad rt), .int (Rd_position Rd), .int (Rd_limit Rd), .int (Rd_wrongPlace Rd)])) := rfl
theorem cw_24 {ad : Nat → Nat} {ca : Nat → ClassId} {rt : Nat} {Sj : SSJ} {T0 : STx} {T1 : STx} {Rd : SRd} {Pg : SPg} {Pt : SPt} {Mk : SMk} {Lk : SLk} {Ck : SCk} {Jd : SJd} {Ld : SLd} {Pr : SPr} : (o_cw ad ca rt Sj T0 T1 Rd Pg Pt Mk Lk Ck Jd Ld Pr)[24]? = some (ad 24, .inl (ca 20, 2050, .inl (Rd_words Rd))) := rfl
theorem cw_25 {ad : Nat → Nat} {ca : Nat → ClassId} {rt : Nat} {Sj : SSJ} {T0 : STx} {T1 : STx} {Rd : SRd} {Pg : SPg} {Pt : SPt} {Mk : SMk} {Lk : SLk} {Ck : SCk} {Jd : SJd} {Ld : SLd} {Pr : SPr} : (o_cw ad ca rt Sj T0 T1 Rd Pg Pt Mk Lk Ck Jd Ld Pr)[25]? = some (ad 25, .inr (3, [.ref (ad 26), .ref (ad 27), .int (Pg_length Pg), .ref (ad 28), .int (Pg_setsUsed Pg), .ref (ad 29), .ref (ad 30), .int (Pg_top Pg), .ref (ad 31), .int (Pg_waitingCount Pg), .ref (ad 32)])) := rfl
theorem cw_26 {ad : Nat → Nat} {ca : Nat → ClassId} {rt : Nat} {Sj : SSJ} {T0 : STx} {T1 : STx} {Rd : SRd} {Pg : SPg} {Pt : SPt} {Mk : SMk} {Lk : SLk} {Ck : SCk} {Jd : SJd} {Ld : SLd} {Pr : SPr} : (o_cw ad ca rt Sj T0 T1 Rd Pg Pt Mk Lk Ck Jd Ld Pr)[26]? = some (ad 26, .inl (ca 21, 1300, .inl (Pg_operations Pg))) := rfl
theorem cw_27 {ad : Nat → Nat} {ca : Nat → ClassId} {rt : Nat} {Sj : SSJ} {T0 : STx} {T1 : STx} {Rd : SRd} {Pg : SPg} {Pt : SPt} {Mk : SMk} {Lk : SLk} {Ck : SCk} {Jd : SJd} {Ld : SLd} {Pr : SPr} : (o_cw ad ca rt Sj T0 T1 Rd Pg Pt Mk Lk Ck Jd Ld Pr)[27]? = some (ad 27, .inl (ca 22, 1300, .inl (Pg_arguments Pg))) := rfl
theorem cw_28 {ad : Nat → Nat} {ca : Nat → ClassId} {rt : Nat} {Sj : SSJ} {T0 : STx} {T1 : STx} {Rd : SRd} {Pg : SPg} {Pt : SPt} {Mk : SMk} {Lk : SLk} {Ck : SCk} {Jd : SJd} {Ld : SLd} {Pr : SPr} : (o_cw ad ca rt Sj T0 T1 Rd Pg Pt Mk Lk Ck Jd Ld Pr)[28]? = some (ad 28, .inl (ca 23, 8000, .inl (Pg_sets Pg))) := rfl
theorem cw_29 {ad : Nat → Nat} {ca : Nat → ClassId} {rt : Nat} {Sj : SSJ} {T0 : STx} {T1 : STx} {Rd : SRd} {Pg : SPg} {Pt : SPt} {Mk : SMk} {Lk : SLk} {Ck : SCk} {Jd : SJd} {Ld : SLd} {Pr : SPr} : (o_cw ad ca rt Sj T0 T1 Rd Pg Pt Mk Lk Ck Jd Ld Pr)[29]? = some (ad 29, .inl (ca 24, 1300, .inl (Pg_rounds Pg))) := rfl
theorem cw_30 {ad : Nat → Nat} {ca : Nat → ClassId} {rt : Nat} {Sj : SSJ} {T0 : STx} {T1 : STx} {Rd : SRd} {Pg : SPg} {Pt : SPt} {Mk : SMk} {Lk : SLk} {Ck : SCk} {Jd : SJd} {Ld : SLd} {Pr : SPr} : (o_cw ad ca rt Sj T0 T1 Rd Pg Pt Mk Lk Ck Jd Ld Pr)[30]? = some (ad 30, .inl (ca 25, 1300, .inl (Pg_stack Pg))) := rfl
theorem cw_31 {ad : Nat → Nat} {ca : Nat → ClassId} {rt : Nat} {Sj : SSJ} {T0 : STx} {T1 : STx} {Rd : SRd} {Pg : SPg} {Pt : SPt} {Mk : SMk} {Lk : SLk} {Ck : SCk} {Jd : SJd} {Ld : SLd} {Pr : SPr} : (o_cw ad ca rt Sj T0 T1 Rd Pg Pt Mk Lk Ck Jd Ld Pr)[31]? = some (ad 31, .inl (ca 26, 1300, .inl (Pg_waiting Pg))) := rfl
theorem cw_32 {ad : Nat → Nat} {ca : Nat → ClassId} {rt : Nat} {Sj : SSJ} {T0 : STx} {T1 : STx} {Rd : SRd} {Pg : SPg} {Pt : SPt} {Mk : SMk} {Lk : SLk} {Ck : SCk} {Jd : SJd} {Ld : SLd} {Pr : SPr} : (o_cw ad ca rt Sj T0 T1 Rd Pg Pt Mk Lk Ck Jd Ld Pr)[32]? = some (ad 32, .inl (ca 27, 1300, .inl (Pg_moved Pg))) := rfl
theorem cw_33 {ad : Nat → Nat} {ca : Nat → ClassId} {rt : Nat} {Sj : SSJ} {T0 : STx} {T1 : STx} {Rd : SRd} {Pg : SPg} {Pt : SPt} {Mk : SMk} {Lk : SLk} {Ck : SCk} {Jd : SJd} {Ld : SLd} {Pr : SPr} : (o_cw ad ca rt Sj T0 T1 Rd Pg Pt Mk Lk Ck Jd Ld Pr)[33]? = some (ad 33, .inr (4, [.ref (ad 25), .ref (ad 34), .int (Pt_characterCount Pt), .int (Pt_tokenCount Pt), .int (Pt_position Pt), .int (Pt_total Pt), .int (Pt_least Pt), .int (Pt_most Pt), .int (Pt_depth Pt), .ref (ad 35), .ref (ad 36), .ref (ad 37), .ref (ad 38)])) := rfl
theorem cw_34 {ad : Nat → Nat} {ca : Nat → ClassId} {rt : Nat} {Sj : SSJ} {T0 : STx} {T1 : STx} {Rd : SRd} {Pg : SPg} {Pt : SPt} {Mk : SMk} {Lk : SLk} {Ck : SCk} {Jd : SJd} {Ld : SLd} {Pr : SPr} : (o_cw ad ca rt Sj T0 T1 Rd Pg Pt Mk Lk Ck Jd Ld Pr)[34]? = some (ad 34, .inl (ca 28, 4000, .inl (Pt_tokens Pt))) := rfl
theorem cw_35 {ad : Nat → Nat} {ca : Nat → ClassId} {rt : Nat} {Sj : SSJ} {T0 : STx} {T1 : STx} {Rd : SRd} {Pg : SPg} {Pt : SPt} {Mk : SMk} {Lk : SLk} {Ck : SCk} {Jd : SJd} {Ld : SLd} {Pr : SPr} : (o_cw ad ca rt Sj T0 T1 Rd Pg Pt Mk Lk Ck Jd Ld Pr)[35]? = some (ad 35, .inl (ca 29, 31, .inl (Pt_blockStarts Pt))) := rfl
theorem cw_36 {ad : Nat → Nat} {ca : Nat → ClassId} {rt : Nat} {Sj : SSJ} {T0 : STx} {T1 : STx} {Rd : SRd} {Pg : SPg} {Pt : SPt} {Mk : SMk} {Lk : SLk} {Ck : SCk} {Jd : SJd} {Ld : SLd} {Pr : SPr} : (o_cw ad ca rt Sj T0 T1 Rd Pg Pt Mk Lk Ck Jd Ld Pr)[36]? = some (ad 36, .inl (ca 30, 31, .inl (Pt_branchStarts Pt))) := rfl
theorem cw_37 {ad : Nat → Nat} {ca : Nat → ClassId} {rt : Nat} {Sj : SSJ} {T0 : STx} {T1 : STx} {Rd : SRd} {Pg : SPg} {Pt : SPt} {Mk : SMk} {Lk : SLk} {Ck : SCk} {Jd : SJd} {Ld : SLd} {Pr : SPr} : (o_cw ad ca rt Sj T0 T1 Rd Pg Pt Mk Lk Ck Jd Ld Pr)[37]? = some (ad 37, .inl (ca 31, 31, .inl (Pt_jumps Pt))) := rfl
theorem cw_38 {ad : Nat → Nat} {ca : Nat → ClassId} {rt : Nat} {Sj : SSJ} {T0 : STx} {T1 : STx} {Rd : SRd} {Pg : SPg} {Pt : SPt} {Mk : SMk} {Lk : SLk} {Ck : SCk} {Jd : SJd} {Ld : SLd} {Pr : SPr} : (o_cw ad ca rt Sj T0 T1 Rd Pg Pt Mk Lk Ck Jd Ld Pr)[38]? = some (ad 38, .inl (ca 32, 31, .inl (Pt_sizesBefore Pt))) := rfl
theorem cw_39 {ad : Nat → Nat} {ca : Nat → ClassId} {rt : Nat} {Sj : SSJ} {T0 : STx} {T1 : STx} {Rd : SRd} {Pg : SPg} {Pt : SPt} {Mk : SMk} {Lk : SLk} {Ck : SCk} {Jd : SJd} {Ld : SLd} {Pr : SPr} : (o_cw ad ca rt Sj T0 T1 Rd Pg Pt Mk Lk Ck Jd Ld Pr)[39]? = some (ad 39, .inr (5, [.ref (ad 1), .ref (ad 40), .ref (ad 41), .ref (ad 42)])) := rfl
theorem cw_40 {ad : Nat → Nat} {ca : Nat → ClassId} {rt : Nat} {Sj : SSJ} {T0 : STx} {T1 : STx} {Rd : SRd} {Pg : SPg} {Pt : SPt} {Mk : SMk} {Lk : SLk} {Ck : SCk} {Jd : SJd} {Ld : SLd} {Pr : SPr} : (o_cw ad ca rt Sj T0 T1 Rd Pg Pt Mk Lk Ck Jd Ld Pr)[40]? = some (ad 40, .inl (ca 33, 1000, .inl (Mk_keywords Mk))) := rfl
theorem cw_41 {ad : Nat → Nat} {ca : Nat → ClassId} {rt : Nat} {Sj : SSJ} {T0 : STx} {T1 : STx} {Rd : SRd} {Pg : SPg} {Pt : SPt} {Mk : SMk} {Lk : SLk} {Ck : SCk} {Jd : SJd} {Ld : SLd} {Pr : SPr} : (o_cw ad ca rt Sj T0 T1 Rd Pg Pt Mk Lk Ck Jd Ld Pr)[41]? = some (ad 41, .inl (ca 34, 1000, .inl (Mk_schemas Mk))) := rfl
theorem cw_42 {ad : Nat → Nat} {ca : Nat → ClassId} {rt : Nat} {Sj : SSJ} {T0 : STx} {T1 : STx} {Rd : SRd} {Pg : SPg} {Pt : SPt} {Mk : SMk} {Lk : SLk} {Ck : SCk} {Jd : SJd} {Ld : SLd} {Pr : SPr} : (o_cw ad ca rt Sj T0 T1 Rd Pg Pt Mk Lk Ck Jd Ld Pr)[42]? = some (ad 42, .inl (ca 35, 1000, .inl (Mk_targets Mk))) := rfl
theorem cw_43 {ad : Nat → Nat} {ca : Nat → ClassId} {rt : Nat} {Sj : SSJ} {T0 : STx} {T1 : STx} {Rd : SRd} {Pg : SPg} {Pt : SPt} {Mk : SMk} {Lk : SLk} {Ck : SCk} {Jd : SJd} {Ld : SLd} {Pr : SPr} : (o_cw ad ca rt Sj T0 T1 Rd Pg Pt Mk Lk Ck Jd Ld Pr)[43]? = some (ad 43, .inr (6, [.ref (ad 1), .ref (ad 39), .ref (ad 44), .int (Lk_length Lk), .int (Lk_position Lk)])) := rfl
theorem cw_44 {ad : Nat → Nat} {ca : Nat → ClassId} {rt : Nat} {Sj : SSJ} {T0 : STx} {T1 : STx} {Rd : SRd} {Pg : SPg} {Pt : SPt} {Mk : SMk} {Lk : SLk} {Ck : SCk} {Jd : SJd} {Ld : SLd} {Pr : SPr} : (o_cw ad ca rt Sj T0 T1 Rd Pg Pt Mk Lk Ck Jd Ld Pr)[44]? = some (ad 44, .inl (ca 36, 4000, .inl (Lk_characters Lk))) := rfl
theorem cw_45 {ad : Nat → Nat} {ca : Nat → ClassId} {rt : Nat} {Sj : SSJ} {T0 : STx} {T1 : STx} {Rd : SRd} {Pg : SPg} {Pt : SPt} {Mk : SMk} {Lk : SLk} {Ck : SCk} {Jd : SJd} {Ld : SLd} {Pr : SPr} : (o_cw ad ca rt Sj T0 T1 Rd Pg Pt Mk Lk Ck Jd Ld Pr)[45]? = some (ad 45, .inr (7, [.ref (ad 1), .ref (ad 39), .ref (ad 33), .ref (ad 43), .ref (ad 46), .ref (ad 47), .ref (ad 48), .int (Ck_reachedCount Ck), .int (Ck_found Ck), .int (Ck_foundAt Ck)])) := rfl
theorem cw_46 {ad : Nat → Nat} {ca : Nat → ClassId} {rt : Nat} {Sj : SSJ} {T0 : STx} {T1 : STx} {Rd : SRd} {Pg : SPg} {Pt : SPt} {Mk : SMk} {Lk : SLk} {Ck : SCk} {Jd : SJd} {Ld : SLd} {Pr : SPr} : (o_cw ad ca rt Sj T0 T1 Rd Pg Pt Mk Lk Ck Jd Ld Pr)[46]? = some (ad 46, .inl (ca 37, 1000, .inl (Ck_aimedAt Ck))) := rfl
theorem cw_47 {ad : Nat → Nat} {ca : Nat → ClassId} {rt : Nat} {Sj : SSJ} {T0 : STx} {T1 : STx} {Rd : SRd} {Pg : SPg} {Pt : SPt} {Mk : SMk} {Lk : SLk} {Ck : SCk} {Jd : SJd} {Ld : SLd} {Pr : SPr} : (o_cw ad ca rt Sj T0 T1 Rd Pg Pt Mk Lk Ck Jd Ld Pr)[47]? = some (ad 47, .inl (ca 38, 1000, .inl (Ck_reached Ck))) := rfl
theorem cw_48 {ad : Nat → Nat} {ca : Nat → ClassId} {rt : Nat} {Sj : SSJ} {T0 : STx} {T1 : STx} {Rd : SRd} {Pg : SPg} {Pt : SPt} {Mk : SMk} {Lk : SLk} {Ck : SCk} {Jd : SJd} {Ld : SLd} {Pr : SPr} : (o_cw ad ca rt Sj T0 T1 Rd Pg Pt Mk Lk Ck Jd Ld Pr)[48]? = some (ad 48, .inl (ca 39, 1000, .inl (Ck_reachedFrom Ck))) := rfl
theorem cw_49 {ad : Nat → Nat} {ca : Nat → ClassId} {rt : Nat} {Sj : SSJ} {T0 : STx} {T1 : STx} {Rd : SRd} {Pg : SPg} {Pt : SPt} {Mk : SMk} {Lk : SLk} {Ck : SCk} {Jd : SJd} {Ld : SLd} {Pr : SPr} : (o_cw ad ca rt Sj T0 T1 Rd Pg Pt Mk Lk Ck Jd Ld Pr)[49]? = some (ad 49, .inr (8, [.ref (ad 1), .ref (ad 39), .ref (ad 12), .ref (ad 33), .ref (ad 25), .ref (ad 51), .ref (ad 54), .ref (ad 50), .int (Jd_silences Jd), .int (Jd_over Jd), .int (Jd_schemas Jd), .int (Jd_deepest Jd)])) := rfl
theorem cw_50 {ad : Nat → Nat} {ca : Nat → ClassId} {rt : Nat} {Sj : SSJ} {T0 : STx} {T1 : STx} {Rd : SRd} {Pg : SPg} {Pt : SPt} {Mk : SMk} {Lk : SLk} {Ck : SCk} {Jd : SJd} {Ld : SLd} {Pr : SPr} : (o_cw ad ca rt Sj T0 T1 Rd Pg Pt Mk Lk Ck Jd Ld Pr)[50]? = some (ad 50, .inl (ca 40, 102, .inr (.inl (Jd_evaluated Jd)))) := rfl
theorem cw_51 {ad : Nat → Nat} {ca : Nat → ClassId} {rt : Nat} {Sj : SSJ} {T0 : STx} {T1 : STx} {Rd : SRd} {Pg : SPg} {Pt : SPt} {Mk : SMk} {Lk : SLk} {Ck : SCk} {Jd : SJd} {Ld : SLd} {Pr : SPr} : (o_cw ad ca rt Sj T0 T1 Rd Pg Pt Mk Lk Ck Jd Ld Pr)[51]? = some (ad 51, .inr (9, [.ref (ad 52), .ref (ad 53)])) := rfl
theorem cw_52 {ad : Nat → Nat} {ca : Nat → ClassId} {rt : Nat} {Sj : SSJ} {T0 : STx} {T1 : STx} {Rd : SRd} {Pg : SPg} {Pt : SPt} {Mk : SMk} {Lk : SLk} {Ck : SCk} {Jd : SJd} {Ld : SLd} {Pr : SPr} : (o_cw ad ca rt Sj T0 T1 Rd Pg Pt Mk Lk Ck Jd Ld Pr)[52]? = some (ad 52, .inl (ca 41, 7, .inr (.inl (Ld_divisor Ld)))) := rfl
theorem cw_53 {ad : Nat → Nat} {ca : Nat → ClassId} {rt : Nat} {Sj : SSJ} {T0 : STx} {T1 : STx} {Rd : SRd} {Pg : SPg} {Pt : SPt} {Mk : SMk} {Lk : SLk} {Ck : SCk} {Jd : SJd} {Ld : SLd} {Pr : SPr} : (o_cw ad ca rt Sj T0 T1 Rd Pg Pt Mk Lk Ck Jd Ld Pr)[53]? = some (ad 53, .inl (ca 42, 7, .inr (.inl (Ld_rest Ld)))) := rfl
theorem cw_54 {ad : Nat → Nat} {ca : Nat → ClassId} {rt : Nat} {Sj : SSJ} {T0 : STx} {T1 : STx} {Rd : SRd} {Pg : SPg} {Pt : SPt} {Mk : SMk} {Lk : SLk} {Ck : SCk} {Jd : SJd} {Ld : SLd} {Pr : SPr} : (o_cw ad ca rt Sj T0 T1 Rd Pg Pt Mk Lk Ck Jd Ld Pr)[54]? = some (ad 54, .inr (10, [.ref (ad 55), .ref (ad 56), .int (Pr_size Pr)])) := rfl
theorem cw_55 {ad : Nat → Nat} {ca : Nat → ClassId} {rt : Nat} {Sj : SSJ} {T0 : STx} {T1 : STx} {Rd : SRd} {Pg : SPg} {Pt : SPt} {Mk : SMk} {Lk : SLk} {Ck : SCk} {Jd : SJd} {Ld : SLd} {Pr : SPr} : (o_cw ad ca rt Sj T0 T1 Rd Pg Pt Mk Lk Ck Jd Ld Pr)[55]? = some (ad 55, .inl (ca 43, 300, .inl (Pr_values Pr))) := rfl
theorem cw_56 {ad : Nat → Nat} {ca : Nat → ClassId} {rt : Nat} {Sj : SSJ} {T0 : STx} {T1 : STx} {Rd : SRd} {Pg : SPg} {Pt : SPt} {Mk : SMk} {Lk : SLk} {Ck : SCk} {Jd : SJd} {Ld : SLd} {Pr : SPr} : (o_cw ad ca rt Sj T0 T1 Rd Pg Pt Mk Lk Ck Jd Ld Pr)[56]? = some (ad 56, .inl (ca 44, 300, .inl (Pr_keywords Pr))) := rfl
