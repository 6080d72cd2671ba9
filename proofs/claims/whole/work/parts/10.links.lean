def uX3_init : MU := (yX3_init, cX3_init, 1, none, { frames := 1, cells := 1, slots := 160, locals := 20 }, [], true)
def uX4_init : MU := (yX4_init, cX4_init, 1, none, { frames := 1, cells := 6, slots := 38, locals := 20 }, [], true)
def uX2_init : MU := (yX2_init, cX2_init, 2, none, { frames := 2, cells := 169, slots := 1152, locals := 40 }, [], true)
def uX1_init : MU := (yX1_init, cX1_init, 1, none, { frames := 2, cells := 22, slots := 145, locals := 40 }, [], true)
def uX0_init : MU := (yX0_init, cX0_init, 1, none, { frames := 1, cells := 1, slots := 120, locals := 20 }, [], true)
def uX5_init : MU := (yX5_init, cX5_init, 1, none, { frames := 3, cells := 213, slots := 1805, locals := 61 }, [], true)
def uX5_baseOf : MU := (yX5_baseOf, cX5_baseOf, 4, (some .int), { frames := 0, cells := 0, slots := 0, locals := 0 }, [], false)
def uX3_append : MU := (yX3_append, cX3_append, 5, none, { frames := 1, cells := 0, slots := 0, locals := 23 }, [], false)
def uX5_reference : MU := (yX5_reference, cX5_reference, 4, (some .int), { frames := 6, cells := 1, slots := 6, locals := 92 }, [], false)
def uX3_covers : MU := (yX3_covers, cX3_covers, 3, (some .boolean), { frames := 0, cells := 0, slots := 0, locals := 0 }, [], false)
def uX4_fillLikelihoods : MU := (yX4_fillLikelihoods, cX4_fillLikelihoods, 3, none, { frames := 0, cells := 0, slots := 0, locals := 0 }, [], false)
def uX4_clear : MU := (yX4_clear, cX4_clear, 2, none, { frames := 1, cells := 0, slots := 0, locals := 22 }, [], false)
def uX3_packed : MU := (yX3_packed, cX3_packed, 5, (some .int), { frames := 0, cells := 0, slots := 0, locals := 0 }, [], false)
def uX4_appendAllele : MU := (yX4_appendAllele, cX4_appendAllele, 3, none, { frames := 0, cells := 0, slots := 0, locals := 0 }, [], false)
def uX5_draft : MU := (yX5_draft, cX5_draft, 3, none, { frames := 6, cells := 1, slots := 6, locals := 92 }, [], false)
def uX5_lowBases : MU := (yX5_lowBases, cX5_lowBases, 1, (some .int), { frames := 0, cells := 0, slots := 0, locals := 0 }, [], false)
def uX4_find : MU := (yX4_find, cX4_find, 4, (some .int), { frames := 0, cells := 0, slots := 0, locals := 0 }, [], false)
def uX5_allele : MU := (yX5_allele, cX5_allele, 5, (some .int), { frames := 6, cells := 1, slots := 6, locals := 92 }, [], false)
def uX4_hasAllele : MU := (yX4_hasAllele, cX4_hasAllele, 2, (some .boolean), { frames := 0, cells := 0, slots := 0, locals := 0 }, [], false)
def uX5_isWithin : MU := (yX5_isWithin, cX5_isWithin, 2, (some .boolean), { frames := 0, cells := 0, slots := 0, locals := 0 }, [], false)
def uX5_depth : MU := (yX5_depth, cX5_depth, 4, none, { frames := 6, cells := 1, slots := 6, locals := 92 }, [], false)
def uX5_isSample : MU := (yX5_isSample, cX5_isSample, 1, (some .boolean), { frames := 0, cells := 0, slots := 0, locals := 0 }, [], false)
def uX4_allowsInGenotype : MU := (yX4_allowsInGenotype, cX4_allowsInGenotype, 2, (some .boolean), { frames := 1, cells := 0, slots := 0, locals := 21 }, [], false)
def uX5_genotype : MU := (yX5_genotype, cX5_genotype, 5, none, { frames := 6, cells := 1, slots := 6, locals := 92 }, [], false)
def uX4_pairs : MU := (yX4_pairs, cX4_pairs, 1, (some .int), { frames := 0, cells := 0, slots := 0, locals := 0 }, [], false)
def uX5_likelihood : MU := (yX5_likelihood, cX5_likelihood, 4, none, { frames := 6, cells := 1, slots := 6, locals := 92 }, [], false)
def uX2_isFull : MU := (yX2_isFull, cX2_isFull, 1, (some .boolean), { frames := 0, cells := 0, slots := 0, locals := 0 }, [], false)
def uX2_open : MU := (yX2_open, cX2_open, 4, (some (.object "VariantKit$Variant")), { frames := 0, cells := 0, slots := 0, locals := 0 }, [], false)
def uX4_copy : MU := (yX4_copy, cX4_copy, 3, none, { frames := 1, cells := 0, slots := 0, locals := 48 }, [], false)
def uX2_insert : MU := (yX2_insert, cX2_insert, 3, (some .int), { frames := 2, cells := 0, slots := 0, locals := 70 }, [], false)
def uX5_add : MU := (yX5_add, cX5_add, 1, (some .int), { frames := 6, cells := 1, slots := 6, locals := 92 }, [], false)
def uX5_requireRecord : MU := (yX5_requireRecord, cX5_requireRecord, 2, none, { frames := 6, cells := 1, slots := 6, locals := 92 }, [], false)
def uX2_close : MU := (yX2_close, cX2_close, 4, none, { frames := 0, cells := 0, slots := 0, locals := 0 }, [], false)
def uX5_remove : MU := (yX5_remove, cX5_remove, 2, none, { frames := 7, cells := 1, slots := 6, locals := 113 }, [], false)
def uX4_isLastBaseShared : MU := (yX4_isLastBaseShared, cX4_isLastBaseShared, 2, (some .boolean), { frames := 0, cells := 0, slots := 0, locals := 0 }, [], false)
def uX4_shortest : MU := (yX4_shortest, cX4_shortest, 3, (some .int), { frames := 1, cells := 0, slots := 0, locals := 21 }, [], false)
def uX4_putInFront : MU := (yX4_putInFront, cX4_putInFront, 3, none, { frames := 0, cells := 0, slots := 0, locals := 0 }, [], false)
def uX4_trimEnd : MU := (yX4_trimEnd, cX4_trimEnd, 3, (some .boolean), { frames := 2, cells := 0, slots := 0, locals := 43 }, [], false)
def uX4_isFirstBaseShared : MU := (yX4_isFirstBaseShared, cX4_isFirstBaseShared, 3, (some .boolean), { frames := 1, cells := 0, slots := 0, locals := 23 }, [], false)
def uX4_trimFront : MU := (yX4_trimFront, cX4_trimFront, 2, (some .boolean), { frames := 2, cells := 0, slots := 0, locals := 45 }, [], false)
def uX4_trim : MU := (yX4_trim, cX4_trim, 4, none, { frames := 3, cells := 0, slots := 0, locals := 66 }, [], false)
def uX5_normalise : MU := (yX5_normalise, cX5_normalise, 2, (some .int), { frames := 7, cells := 1, slots := 6, locals := 113 }, [], false)
def uX4_appendAlleleOf : MU := (yX4_appendAlleleOf, cX4_appendAlleleOf, 3, none, { frames := 1, cells := 0, slots := 0, locals := 22 }, [], false)
def uX5_pairNumber : MU := (yX5_pairNumber, cX5_pairNumber, 4, (some .int), { frames := 1, cells := 0, slots := 0, locals := 21 }, [], false)
def uX4_becomePart : MU := (yX4_becomePart, cX4_becomePart, 5, none, { frames := 2, cells := 0, slots := 0, locals := 44 }, [], false)
def uX5_split : MU := (yX5_split, cX5_split, 4, (some .int), { frames := 7, cells := 2, slots := 12, locals := 113 }, [], false)
def uX4_lengthenLike : MU := (yX4_lengthenLike, cX4_lengthenLike, 5, none, { frames := 1, cells := 0, slots := 0, locals := 20 }, [], false)
def uX4_hasTooLongAllele : MU := (yX4_hasTooLongAllele, cX4_hasTooLongAllele, 2, (some .boolean), { frames := 0, cells := 0, slots := 0, locals := 0 }, [], false)
def uX1_uniteAlleles : MU := (yX1_uniteAlleles, cX1_uniteAlleles, 3, (some .boolean), { frames := 2, cells := 0, slots := 0, locals := 44 }, [], false)
def uX1_uniteDepths : MU := (yX1_uniteDepths, cX1_uniteDepths, 4, none, { frames := 1, cells := 0, slots := 0, locals := 21 }, [], false)
def uX1_unitedAllele : MU := (yX1_unitedAllele, cX1_unitedAllele, 3, (some .int), { frames := 0, cells := 0, slots := 0, locals := 0 }, [], false)
def uX1_uniteGenotypes : MU := (yX1_uniteGenotypes, cX1_uniteGenotypes, 2, none, { frames := 1, cells := 0, slots := 0, locals := 22 }, [], false)
def uX1_uniteLikelihoods : MU := (yX1_uniteLikelihoods, cX1_uniteLikelihoods, 7, none, { frames := 2, cells := 0, slots := 0, locals := 48 }, [], false)
def uX1_unite : MU := (yX1_unite, cX1_unite, 3, (some .boolean), { frames := 3, cells := 0, slots := 0, locals := 74 }, [], false)
def uX5_join : MU := (yX5_join, cX5_join, 2, none, { frames := 7, cells := 2, slots := 12, locals := 113 }, [], false)
def uX0_put : MU := (yX0_put, cX0_put, 2, none, { frames := 0, cells := 0, slots := 0, locals := 0 }, [], false)
def uX0_putNumber : MU := (yX0_putNumber, cX0_putNumber, 3, none, { frames := 1, cells := 0, slots := 0, locals := 21 }, [], false)
def uX0_putAllele : MU := (yX0_putAllele, cX0_putAllele, 4, none, { frames := 1, cells := 0, slots := 0, locals := 23 }, [], false)
def uX0_putNumbers : MU := (yX0_putNumbers, cX0_putNumbers, 6, none, { frames := 2, cells := 0, slots := 0, locals := 43 }, [], false)
def uX0_putVariant : MU := (yX0_putVariant, cX0_putVariant, 4, none, { frames := 3, cells := 0, slots := 0, locals := 68 }, [], false)
def uX5_written : MU := (yX5_written, cX5_written, 3, (some .int), { frames := 7, cells := 2, slots := 12, locals := 113 }, [], false)
def uX5_type : MU := (yX5_type, cX5_type, 5, none, { frames := 6, cells := 1, slots := 6, locals := 92 }, [], false)
def uX0_take : MU := (yX0_take, cX0_take, 1, (some .int), { frames := 0, cells := 0, slots := 0, locals := 0 }, [], false)
def uX0_takeNumber : MU := (yX0_takeNumber, cX0_takeNumber, 3, (some .int), { frames := 1, cells := 0, slots := 0, locals := 20 }, [], false)
def uX0_takeBases : MU := (yX0_takeBases, cX0_takeBases, 7, (some .int), { frames := 1, cells := 0, slots := 0, locals := 20 }, [], false)
def uX0_takeAlleles : MU := (yX0_takeAlleles, cX0_takeAlleles, 7, (some .boolean), { frames := 2, cells := 0, slots := 0, locals := 46 }, [], false)
def uX0_takeNumbers : MU := (yX0_takeNumbers, cX0_takeNumbers, 7, (some .boolean), { frames := 2, cells := 0, slots := 0, locals := 42 }, [], false)
def uX0_takeGenotype : MU := (yX0_takeGenotype, cX0_takeGenotype, 5, (some .boolean), { frames := 2, cells := 0, slots := 0, locals := 42 }, [], false)
def uX0_takeVariant : MU := (yX0_takeVariant, cX0_takeVariant, 5, (some .boolean), { frames := 3, cells := 0, slots := 0, locals := 72 }, [], false)
def uX0_isSame : MU := (yX0_isSame, cX0_isSame, 3, (some .boolean), { frames := 0, cells := 0, slots := 0, locals := 0 }, [], false)
def uX5_takeTyped : MU := (yX5_takeTyped, cX5_takeTyped, 1, (some .boolean), { frames := 4, cells := 0, slots := 0, locals := 96 }, [], false)
def uX5_read : MU := (yX5_read, cX5_read, 3, (some .int), { frames := 6, cells := 1, slots := 6, locals := 116 }, [], false)
def uX5_records : MU := (yX5_records, cX5_records, 1, (some .int), { frames := 0, cells := 0, slots := 0, locals := 0 }, [], false)
def uX4_lastPlace : MU := (yX4_lastPlace, cX4_lastPlace, 1, (some .int), { frames := 0, cells := 0, slots := 0, locals := 0 }, [], false)
def uX4_bin : MU := (yX4_bin, cX4_bin, 2, (some .int), { frames := 1, cells := 0, slots := 0, locals := 20 }, [], false)
def uX5_about : MU := (yX5_about, cX5_about, 4, (some .int), { frames := 7, cells := 2, slots := 12, locals := 113 }, [], false)
def uX5_base : MU := (yX5_base, cX5_base, 6, (some .int), { frames := 7, cells := 2, slots := 12, locals := 113 }, [], false)
def uX5_requireRegion : MU := (yX5_requireRegion, cX5_requireRegion, 2, none, { frames := 6, cells := 1, slots := 6, locals := 92 }, [], false)
def uX4_spansOneOf : MU := (yX4_spansOneOf, cX4_spansOneOf, 3, (some .boolean), { frames := 1, cells := 0, slots := 0, locals := 20 }, [], false)
def uX5_found : MU := (yX5_found, cX5_found, 5, (some .int), { frames := 7, cells := 1, slots := 6, locals := 113 }, [], false)
def uX5_mean : MU := (yX5_mean, cX5_mean, 6, (some .float), { frames := 7, cells := 2, slots := 12, locals := 113 }, [], false)
def uX6_init : MU := (yX6_init, cX6_init, 1, none, { frames := 1, cells := 5, slots := 1660, locals := 20 }, [], true)
def uX6_thrown : MU := (yX6_thrown, cX6_thrown, 1, (some .int), { frames := 0, cells := 0, slots := 0, locals := 0 }, [], false)
def uX6_throwing : MU := (yX6_throwing, cX6_throwing, 3, (some .boolean), { frames := 0, cells := 0, slots := 0, locals := 0 }, [], false)
def uX6_out : MU := (yX6_out, cX6_out, 2, (some .boolean), { frames := 0, cells := 0, slots := 0, locals := 0 }, [], false)
def uX6_get : MU := (yX6_get, cX6_get, 3, (some .int), { frames := 0, cells := 0, slots := 0, locals := 0 }, [], false)
def uX6_put : MU := (yX6_put, cX6_put, 4, none, { frames := 0, cells := 0, slots := 0, locals := 0 }, [], false)
def uX6_copy : MU := (yX6_copy, cX6_copy, 4, none, { frames := 0, cells := 0, slots := 0, locals := 0 }, [], false)
def uX6_empty : MU := (yX6_empty, cX6_empty, 4, none, { frames := 1, cells := 0, slots := 0, locals := 23 }, [], false)
def uX6_addAllele : MU := (yX6_addAllele, cX6_addAllele, 5, none, { frames := 1, cells := 0, slots := 0, locals := 23 }, [], false)
def uX6_findAllele : MU := (yX6_findAllele, cX6_findAllele, 5, (some .int), { frames := 1, cells := 0, slots := 0, locals := 22 }, [], false)
def uX6_referenceFrom : MU := (yX6_referenceFrom, cX6_referenceFrom, 5, (some .int), { frames := 0, cells := 0, slots := 0, locals := 0 }, [], false)
def uX6_pair : MU := (yX6_pair, cX6_pair, 2, (some .int), { frames := 0, cells := 0, slots := 0, locals := 0 }, [], false)
def uX6_pairs : MU := (yX6_pairs, cX6_pairs, 1, (some .int), { frames := 0, cells := 0, slots := 0, locals := 0 }, [], false)
def uX6_reference : MU := (yX6_reference, cX6_reference, 6, (some .int), { frames := 1, cells := 0, slots := 0, locals := 22 }, [], false)
def uX6_draft : MU := (yX6_draft, cX6_draft, 4, none, { frames := 2, cells := 0, slots := 0, locals := 47 }, [], false)
def uX6_allele : MU := (yX6_allele, cX6_allele, 6, (some .int), { frames := 2, cells := 0, slots := 0, locals := 47 }, [], false)
def uX6_depth : MU := (yX6_depth, cX6_depth, 4, none, { frames := 1, cells := 0, slots := 0, locals := 23 }, [], false)
def uX6_genotype : MU := (yX6_genotype, cX6_genotype, 6, none, { frames := 1, cells := 0, slots := 0, locals := 23 }, [], false)
def uX6_likelihood : MU := (yX6_likelihood, cX6_likelihood, 4, none, { frames := 1, cells := 0, slots := 0, locals := 23 }, [], false)
def uX6_open : MU := (yX6_open, cX6_open, 3, none, { frames := 1, cells := 0, slots := 0, locals := 23 }, [], false)
def uX6_enter : MU := (yX6_enter, cX6_enter, 3, (some .int), { frames := 2, cells := 0, slots := 0, locals := 45 }, [], false)
def uX6_add : MU := (yX6_add, cX6_add, 1, (some .int), { frames := 3, cells := 0, slots := 0, locals := 67 }, [], false)
def uX6_close : MU := (yX6_close, cX6_close, 3, none, { frames := 1, cells := 0, slots := 0, locals := 23 }, [], false)
def uX6_remove : MU := (yX6_remove, cX6_remove, 2, none, { frames := 2, cells := 0, slots := 0, locals := 45 }, [], false)
def uX6_shortest : MU := (yX6_shortest, cX6_shortest, 4, (some .int), { frames := 1, cells := 0, slots := 0, locals := 22 }, [], false)
def uX6_edge : MU := (yX6_edge, cX6_edge, 5, (some .int), { frames := 1, cells := 0, slots := 0, locals := 22 }, [], false)
def uX6_same : MU := (yX6_same, cX6_same, 5, (some .boolean), { frames := 2, cells := 0, slots := 0, locals := 46 }, [], false)
def uX6_step : MU := (yX6_step, cX6_step, 9, (some .boolean), { frames := 3, cells := 0, slots := 0, locals := 70 }, [], false)
def uX6_normalise : MU := (yX6_normalise, cX6_normalise, 3, (some .int), { frames := 4, cells := 0, slots := 0, locals := 98 }, [], false)
def uX6_part : MU := (yX6_part, cX6_part, 6, none, { frames := 2, cells := 0, slots := 0, locals := 47 }, [], false)
def uX6_split : MU := (yX6_split, cX6_split, 5, (some .int), { frames := 3, cells := 0, slots := 0, locals := 72 }, [], false)
def uX6_gather : MU := (yX6_gather, cX6_gather, 9, (some .boolean), { frames := 2, cells := 0, slots := 0, locals := 47 }, [], false)
def uX6_back : MU := (yX6_back, cX6_back, 5, (some .int), { frames := 1, cells := 0, slots := 0, locals := 22 }, [], false)
def uX6_likely : MU := (yX6_likely, cX6_likely, 8, (some .int), { frames := 2, cells := 0, slots := 0, locals := 46 }, [], false)
def uX6_joinSample : MU := (yX6_joinSample, cX6_joinSample, 8, none, { frames := 3, cells := 0, slots := 0, locals := 73 }, [], false)
def uX6_join : MU := (yX6_join, cX6_join, 14, none, { frames := 4, cells := 0, slots := 0, locals := 100 }, [], false)
def uX6_write : MU := (yX6_write, cX6_write, 2, none, { frames := 0, cells := 0, slots := 0, locals := 0 }, [], false)
def uX6_writeRow : MU := (yX6_writeRow, cX6_writeRow, 6, none, { frames := 1, cells := 0, slots := 0, locals := 22 }, [], false)
def uX6_letter : MU := (yX6_letter, cX6_letter, 1, (some .int), { frames := 0, cells := 0, slots := 0, locals := 0 }, [], false)
def uX6_writeOut : MU := (yX6_writeOut, cX6_writeOut, 6, none, { frames := 2, cells := 0, slots := 0, locals := 47 }, [], false)
def uX6_written : MU := (yX6_written, cX6_written, 4, (some .int), { frames := 3, cells := 0, slots := 0, locals := 72 }, [], false)
def uX6_type : MU := (yX6_type, cX6_type, 6, none, { frames := 1, cells := 0, slots := 0, locals := 22 }, [], false)
def uX6_byteAt : MU := (yX6_byteAt, cX6_byteAt, 2, (some .int), { frames := 0, cells := 0, slots := 0, locals := 0 }, [], false)
def uX6_twoAt : MU := (yX6_twoAt, cX6_twoAt, 2, (some .int), { frames := 1, cells := 0, slots := 0, locals := 21 }, [], false)
def uX6_readRow : MU := (yX6_readRow, cX6_readRow, 6, (some .int), { frames := 2, cells := 0, slots := 0, locals := 42 }, [], false)
def uX6_baseOf : MU := (yX6_baseOf, cX6_baseOf, 1, (some .int), { frames := 0, cells := 0, slots := 0, locals := 0 }, [], false)
def uX6_inRange : MU := (yX6_inRange, cX6_inRange, 5, (some .boolean), { frames := 1, cells := 0, slots := 0, locals := 24 }, [], false)
def uX6_taken : MU := (yX6_taken, cX6_taken, 7, (some .boolean), { frames := 3, cells := 0, slots := 0, locals := 67 }, [], false)
def uX6_read : MU := (yX6_read, cX6_read, 4, (some .int), { frames := 4, cells := 0, slots := 0, locals := 93 }, [], false)
def uX6_records : MU := (yX6_records, cX6_records, 1, (some .int), { frames := 0, cells := 0, slots := 0, locals := 0 }, [], false)
def uX6_binOf : MU := (yX6_binOf, cX6_binOf, 4, (some .int), { frames := 1, cells := 0, slots := 0, locals := 22 }, [], false)
def uX6_about : MU := (yX6_about, cX6_about, 3, (some .int), { frames := 2, cells := 0, slots := 0, locals := 45 }, [], false)
def uX6_base : MU := (yX6_base, cX6_base, 6, (some .int), { frames := 1, cells := 0, slots := 0, locals := 22 }, [], false)
def uX6_isBad : MU := (yX6_isBad, cX6_isBad, 3, (some .boolean), { frames := 0, cells := 0, slots := 0, locals := 0 }, [], false)
def uX6_spans : MU := (yX6_spans, cX6_spans, 4, (some .boolean), { frames := 1, cells := 0, slots := 0, locals := 22 }, [], false)
def uX6_found : MU := (yX6_found, cX6_found, 5, (some .int), { frames := 2, cells := 0, slots := 0, locals := 45 }, [], false)
def uX6_mean : MU := (yX6_mean, cX6_mean, 7, (some .float), { frames := 2, cells := 0, slots := 0, locals := 45 }, [], false)
theorem wo3_3 : Cond.methodLink RX3 3 objectInit ∈ lw_tbl := by decide +kernel
theorem ff3_9 : FF RX3 9 3 0 (.array (.int)) := ⟨_, _, _, _, cf3, by decide, rfl, rfl, rfl, by decide +kernel⟩
theorem fl3_15 : FL RX3 15 3 1 false (.int) := ⟨_, _, _, _, cf3, by decide, rfl, rfl, Or.inl (by decide +kernel)⟩
theorem wo4_3 : Cond.methodLink RX4 3 objectInit ∈ lw_tbl := by decide +kernel
theorem ff4_9 : FF RX4 9 4 3 (.array (.int)) := ⟨_, _, _, _, cf4, by decide, rfl, rfl, rfl, by decide +kernel⟩
theorem ff4_15 : FF RX4 15 4 4 (.array (.int)) := ⟨_, _, _, _, cf4, by decide, rfl, rfl, rfl, by decide +kernel⟩
theorem ff4_18 : FF RX4 18 4 5 (.array (.int)) := ⟨_, _, _, _, cf4, by decide, rfl, rfl, rfl, by decide +kernel⟩
theorem ff4_21 : FF RX4 21 4 6 (.array (.int)) := ⟨_, _, _, _, cf4, by decide, rfl, rfl, rfl, by decide +kernel⟩
theorem ff4_24 : FF RX4 24 4 7 (.array (.boolean)) := ⟨_, _, _, _, cf4, by decide, rfl, rfl, rfl, by decide +kernel⟩
theorem ff4_28 : FF RX4 28 4 8 (.array (.int)) := ⟨_, _, _, _, cf4, by decide, rfl, rfl, rfl, by decide +kernel⟩
theorem wo1_3 : Cond.methodLink RX1 3 objectInit ∈ lw_tbl := by decide +kernel
theorem no1_9 : NO RX1 9 4 := ⟨_, _, _, _, cf4, by decide +kernel, by decide +kernel, by decide +kernel, by decide +kernel⟩
theorem li1_11 : LI RX1 11 uX4_init 0 := ⟨⟨by decide +kernel, by decide +kernel, by decide +kernel, by decide +kernel, by decide +kernel⟩, rfl, rfl, by decide +kernel⟩
theorem ff1_12 : FF RX1 12 1 0 (.object "VariantKit$Variant") := ⟨_, _, _, _, cf1, by decide, rfl, rfl, rfl, by decide +kernel⟩
theorem ff1_18 : FF RX1 18 1 1 (.object "VariantKit$Variant") := ⟨_, _, _, _, cf1, by decide, rfl, rfl, rfl, by decide +kernel⟩
theorem ff1_21 : FF RX1 21 1 2 (.object "VariantKit$Variant") := ⟨_, _, _, _, cf1, by decide, rfl, rfl, rfl, by decide +kernel⟩
theorem ff1_24 : FF RX1 24 1 3 (.array (.int)) := ⟨_, _, _, _, cf1, by decide, rfl, rfl, rfl, by decide +kernel⟩
theorem wo0_3 : Cond.methodLink RX0 3 objectInit ∈ lw_tbl := by decide +kernel
theorem ff0_9 : FF RX0 9 0 0 (.array (.int)) := ⟨_, _, _, _, cf0, by decide, rfl, rfl, rfl, by decide +kernel⟩
theorem fl0_15 : FL RX0 15 0 1 false (.int) := ⟨_, _, _, _, cf0, by decide, rfl, rfl, Or.inl (by decide +kernel)⟩
theorem fl0_19 : FL RX0 19 0 2 false (.int) := ⟨_, _, _, _, cf0, by decide, rfl, rfl, Or.inl (by decide +kernel)⟩
theorem wo5_1 : Cond.methodLink RX5 1 objectInit ∈ lw_tbl := by decide +kernel
theorem no5_7 : NO RX5 7 3 := ⟨_, _, _, _, cf3, by decide +kernel, by decide +kernel, by decide +kernel, by decide +kernel⟩
theorem li5_9 : LI RX5 9 uX3_init 0 := ⟨⟨by decide +kernel, by decide +kernel, by decide +kernel, by decide +kernel, by decide +kernel⟩, rfl, rfl, by decide +kernel⟩
theorem ff5_10 : FF RX5 10 5 0 (.object "VariantKit$Reference") := ⟨_, _, _, _, cf5, by decide, rfl, rfl, rfl, by decide +kernel⟩
theorem no5_16 : NO RX5 16 2 := ⟨_, _, _, _, cf2, by decide +kernel, by decide +kernel, by decide +kernel, by decide +kernel⟩
theorem li5_18 : LI RX5 18 uX2_init 0 := ⟨⟨by decide +kernel, by decide +kernel, by decide +kernel, by decide +kernel, by decide +kernel⟩, rfl, rfl, by decide +kernel⟩
theorem ff5_19 : FF RX5 19 5 1 (.object "VariantKit$RecordList") := ⟨_, _, _, _, cf5, by decide, rfl, rfl, rfl, by decide +kernel⟩
theorem no5_23 : NO RX5 23 4 := ⟨_, _, _, _, cf4, by decide +kernel, by decide +kernel, by decide +kernel, by decide +kernel⟩
theorem li5_25 : LI RX5 25 uX4_init 0 := ⟨⟨by decide +kernel, by decide +kernel, by decide +kernel, by decide +kernel, by decide +kernel⟩, rfl, rfl, by decide +kernel⟩
theorem ff5_26 : FF RX5 26 5 2 (.object "VariantKit$Variant") := ⟨_, _, _, _, cf5, by decide, rfl, rfl, rfl, by decide +kernel⟩
theorem fl5_30 : FL RX5 30 5 3 false (.boolean) := ⟨_, _, _, _, cf5, by decide, rfl, rfl, Or.inl (by decide +kernel)⟩
theorem ff5_34 : FF RX5 34 5 4 (.object "VariantKit$Variant") := ⟨_, _, _, _, cf5, by decide, rfl, rfl, rfl, by decide +kernel⟩
theorem no5_37 : NO RX5 37 1 := ⟨_, _, _, _, cf1, by decide +kernel, by decide +kernel, by decide +kernel, by decide +kernel⟩
theorem li5_39 : LI RX5 39 uX1_init 0 := ⟨⟨by decide +kernel, by decide +kernel, by decide +kernel, by decide +kernel, by decide +kernel⟩, rfl, rfl, by decide +kernel⟩
theorem ff5_40 : FF RX5 40 5 5 (.object "VariantKit$Joiner") := ⟨_, _, _, _, cf5, by decide, rfl, rfl, rfl, by decide +kernel⟩
theorem no5_44 : NO RX5 44 0 := ⟨_, _, _, _, cf0, by decide +kernel, by decide +kernel, by decide +kernel, by decide +kernel⟩
theorem li5_46 : LI RX5 46 uX0_init 0 := ⟨⟨by decide +kernel, by decide +kernel, by decide +kernel, by decide +kernel, by decide +kernel⟩, rfl, rfl, by decide +kernel⟩
theorem ff5_47 : FF RX5 47 5 6 (.object "VariantKit$ByteRow") := ⟨_, _, _, _, cf5, by decide, rfl, rfl, rfl, by decide +kernel⟩
theorem ff5_51 : FF RX5 51 5 7 (.object "VariantKit$ByteRow") := ⟨_, _, _, _, cf5, by decide, rfl, rfl, rfl, by decide +kernel⟩
theorem fl3_9 : FL RX3 9 3 0 true (.array (.int)) := ⟨_, _, _, _, cf3, by decide, rfl, rfl, Or.inl (by decide +kernel)⟩
theorem ln3_19 : LN RX3 19 uX5_baseOf 3 := ⟨"VariantKit", by decide +kernel, by decide +kernel, by decide +kernel, by decide +kernel, by decide +kernel, by decide +kernel⟩
theorem tw_54_58 : TW 54 58 "java/lang/IllegalArgumentException" := ⟨by decide +kernel, by decide +kernel, by decide +kernel, by decide +kernel⟩
theorem tw_65_69 : TW 65 69 "java/lang/IllegalStateException" := ⟨by decide +kernel, by decide +kernel, by decide +kernel, by decide +kernel⟩
theorem fl5_19 : FL RX5 19 5 1 true (.object "VariantKit$RecordList") := ⟨_, _, _, _, cf5, by decide, rfl, rfl, Or.inl (by decide +kernel)⟩
theorem fl5_61 : FL RX5 61 2 1 false (.int) := ⟨_, _, _, _, cf2, by decide, rfl, rfl, Or.inr ⟨"VariantKit", by decide +kernel⟩⟩
theorem fl5_10 : FL RX5 10 5 0 true (.object "VariantKit$Reference") := ⟨_, _, _, _, cf5, by decide, rfl, rfl, Or.inl (by decide +kernel)⟩
theorem fl5_70 : FL RX5 70 3 1 false (.int) := ⟨_, _, _, _, cf3, by decide, rfl, rfl, Or.inr ⟨"VariantKit", by decide +kernel⟩⟩
theorem lv5_75 : LV RX5 75 uX3_append 2 3 := ⟨⟨by decide +kernel, by decide +kernel, by decide +kernel, by decide +kernel, by decide +kernel⟩, by decide +kernel, by decide +kernel, by decide, _, _, rfl⟩
theorem fl4_28 : FL RX4 28 4 8 true (.array (.int)) := ⟨_, _, _, _, cf4, by decide, rfl, rfl, Or.inl (by decide +kernel)⟩
theorem lv4_41 : LV RX4 41 uX4_fillLikelihoods 1 4 := ⟨⟨by decide +kernel, by decide +kernel, by decide +kernel, by decide +kernel, by decide +kernel⟩, by decide +kernel, by decide +kernel, by decide, _, _, rfl⟩
theorem fl4_24 : FL RX4 24 4 7 true (.array (.boolean)) := ⟨_, _, _, _, cf4, by decide, rfl, rfl, Or.inl (by decide +kernel)⟩
theorem fl4_21 : FL RX4 21 4 6 true (.array (.int)) := ⟨_, _, _, _, cf4, by decide, rfl, rfl, Or.inl (by decide +kernel)⟩
theorem fl4_31 : FL RX4 31 4 0 false (.int) := ⟨_, _, _, _, cf4, by decide, rfl, rfl, Or.inl (by decide +kernel)⟩
theorem fl4_35 : FL RX4 35 4 1 false (.int) := ⟨_, _, _, _, cf4, by decide, rfl, rfl, Or.inl (by decide +kernel)⟩
theorem fl4_38 : FL RX4 38 4 2 false (.int) := ⟨_, _, _, _, cf4, by decide, rfl, rfl, Or.inl (by decide +kernel)⟩
theorem fl4_9 : FL RX4 9 4 3 true (.array (.int)) := ⟨_, _, _, _, cf4, by decide, rfl, rfl, Or.inl (by decide +kernel)⟩
theorem fl4_15 : FL RX4 15 4 4 true (.array (.int)) := ⟨_, _, _, _, cf4, by decide, rfl, rfl, Or.inl (by decide +kernel)⟩
theorem fl4_18 : FL RX4 18 4 5 true (.array (.int)) := ⟨_, _, _, _, cf4, by decide, rfl, rfl, Or.inl (by decide +kernel)⟩
theorem lv5_81 : LV RX5 81 uX3_covers 2 3 := ⟨⟨by decide +kernel, by decide +kernel, by decide +kernel, by decide +kernel, by decide +kernel⟩, by decide +kernel, by decide +kernel, by decide, _, _, rfl⟩
theorem fl5_26 : FL RX5 26 5 2 true (.object "VariantKit$Variant") := ⟨_, _, _, _, cf5, by decide, rfl, rfl, Or.inl (by decide +kernel)⟩
theorem lv5_87 : LV RX5 87 uX4_clear 0 4 := ⟨⟨by decide +kernel, by decide +kernel, by decide +kernel, by decide +kernel, by decide +kernel⟩, by decide +kernel, by decide +kernel, by decide, _, _, rfl⟩
theorem fl5_90 : FL RX5 90 4 0 false (.int) := ⟨_, _, _, _, cf4, by decide, rfl, rfl, Or.inr ⟨"VariantKit", by decide +kernel⟩⟩
theorem lv5_93 : LV RX5 93 uX3_packed 2 3 := ⟨⟨by decide +kernel, by decide +kernel, by decide +kernel, by decide +kernel, by decide +kernel⟩, by decide +kernel, by decide +kernel, by decide, _, _, rfl⟩
theorem lv5_97 : LV RX5 97 uX4_appendAllele 2 4 := ⟨⟨by decide +kernel, by decide +kernel, by decide +kernel, by decide +kernel, by decide +kernel⟩, by decide +kernel, by decide +kernel, by decide, _, _, rfl⟩
theorem fl5_105 : FL RX5 105 4 2 false (.int) := ⟨_, _, _, _, cf4, by decide, rfl, rfl, Or.inr ⟨"VariantKit", by decide +kernel⟩⟩
theorem ls5_110 : LSt RX5 110 uX5_lowBases 1 := ⟨⟨by decide +kernel, by decide +kernel, by decide +kernel, by decide +kernel, by decide +kernel⟩, by decide +kernel⟩
theorem lv5_114 : LV RX5 114 uX4_find 2 4 := ⟨⟨by decide +kernel, by decide +kernel, by decide +kernel, by decide +kernel, by decide +kernel⟩, by decide +kernel, by decide +kernel, by decide, _, _, rfl⟩
theorem lv5_119 : LV RX5 119 uX4_hasAllele 1 4 := ⟨⟨by decide +kernel, by decide +kernel, by decide +kernel, by decide +kernel, by decide +kernel⟩, by decide +kernel, by decide +kernel, by decide, _, _, rfl⟩
theorem ls5_125 : LSt RX5 125 uX5_isWithin 2 := ⟨⟨by decide +kernel, by decide +kernel, by decide +kernel, by decide +kernel, by decide +kernel⟩, by decide +kernel⟩
theorem fl5_130 : FL RX5 130 4 5 true (.array (.int)) := ⟨_, _, _, _, cf4, by decide, rfl, rfl, Or.inr ⟨"VariantKit", by decide +kernel⟩⟩
theorem fl5_134 : FL RX5 134 4 1 false (.int) := ⟨_, _, _, _, cf4, by decide, rfl, rfl, Or.inr ⟨"VariantKit", by decide +kernel⟩⟩
theorem lv4_51 : LV RX4 51 uX4_hasAllele 1 4 := ⟨⟨by decide +kernel, by decide +kernel, by decide +kernel, by decide +kernel, by decide +kernel⟩, by decide +kernel, by decide +kernel, by decide, _, _, rfl⟩
theorem ls5_137 : LSt RX5 137 uX5_isSample 1 := ⟨⟨by decide +kernel, by decide +kernel, by decide +kernel, by decide +kernel, by decide +kernel⟩, by decide +kernel⟩
theorem lv5_142 : LV RX5 142 uX4_allowsInGenotype 1 4 := ⟨⟨by decide +kernel, by decide +kernel, by decide +kernel, by decide +kernel, by decide +kernel⟩, by decide +kernel, by decide +kernel, by decide, _, _, rfl⟩
theorem fl5_147 : FL RX5 147 4 6 true (.array (.int)) := ⟨_, _, _, _, cf4, by decide, rfl, rfl, Or.inr ⟨"VariantKit", by decide +kernel⟩⟩
theorem fl5_150 : FL RX5 150 4 7 true (.array (.boolean)) := ⟨_, _, _, _, cf4, by decide, rfl, rfl, Or.inr ⟨"VariantKit", by decide +kernel⟩⟩
theorem lv5_154 : LV RX5 154 uX4_pairs 0 4 := ⟨⟨by decide +kernel, by decide +kernel, by decide +kernel, by decide +kernel, by decide +kernel⟩, by decide +kernel, by decide +kernel, by decide, _, _, rfl⟩
theorem fl5_162 : FL RX5 162 4 8 true (.array (.int)) := ⟨_, _, _, _, cf4, by decide, rfl, rfl, Or.inr ⟨"VariantKit", by decide +kernel⟩⟩
theorem fl2_18 : FL RX2 18 2 1 false (.int) := ⟨_, _, _, _, cf2, by decide, rfl, rfl, Or.inl (by decide +kernel)⟩
theorem fl2_11 : FL RX2 11 2 0 true (.array (.object "VariantKit$Variant")) := ⟨_, _, _, _, cf2, by decide, rfl, rfl, Or.inl (by decide +kernel)⟩
theorem wy4_45 : Cond.methodLink RX4 45 arraycopyName ∈ lw_tbl := by decide +kernel
theorem lv2_25 : LV RX2 25 uX2_open 1 2 := ⟨⟨by decide +kernel, by decide +kernel, by decide +kernel, by decide +kernel, by decide +kernel⟩, by decide +kernel, by decide +kernel, by decide, _, _, rfl⟩
theorem lv2_29 : LV RX2 29 uX4_copy 1 4 := ⟨⟨by decide +kernel, by decide +kernel, by decide +kernel, by decide +kernel, by decide +kernel⟩, by decide +kernel, by decide +kernel, by decide, _, _, rfl⟩
theorem fl2_22 : FL RX2 22 4 0 false (.int) := ⟨_, _, _, _, cf4, by decide, rfl, rfl, Or.inr ⟨"VariantKit", by decide +kernel⟩⟩
theorem lv5_167 : LV RX5 167 uX2_isFull 0 2 := ⟨⟨by decide +kernel, by decide +kernel, by decide +kernel, by decide +kernel, by decide +kernel⟩, by decide +kernel, by decide +kernel, by decide, _, _, rfl⟩
theorem lv5_173 : LV RX5 173 uX2_insert 1 2 := ⟨⟨by decide +kernel, by decide +kernel, by decide +kernel, by decide +kernel, by decide +kernel⟩, by decide +kernel, by decide +kernel, by decide, _, _, rfl⟩
theorem lv5_177 : LV RX5 177 uX5_requireRecord 1 5 := ⟨⟨by decide +kernel, by decide +kernel, by decide +kernel, by decide +kernel, by decide +kernel⟩, by decide +kernel, by decide +kernel, by decide, _, _, rfl⟩
theorem lv5_181 : LV RX5 181 uX2_close 1 2 := ⟨⟨by decide +kernel, by decide +kernel, by decide +kernel, by decide +kernel, by decide +kernel⟩, by decide +kernel, by decide +kernel, by decide, _, _, rfl⟩
theorem wm4_88 : Cond.methodLink RX4 88 Lib.Math.min.name ∈ lw_tbl := by decide +kernel
theorem lv4_70 : LV RX4 70 uX4_shortest 0 4 := ⟨⟨by decide +kernel, by decide +kernel, by decide +kernel, by decide +kernel, by decide +kernel⟩, by decide +kernel, by decide +kernel, by decide, _, _, rfl⟩
theorem lv4_73 : LV RX4 73 uX3_packed 2 3 := ⟨⟨by decide +kernel, by decide +kernel, by decide +kernel, by decide +kernel, by decide +kernel⟩, by decide +kernel, by decide +kernel, by decide, _, _, rfl⟩
theorem lv4_78 : LV RX4 78 uX4_putInFront 1 4 := ⟨⟨by decide +kernel, by decide +kernel, by decide +kernel, by decide +kernel, by decide +kernel⟩, by decide +kernel, by decide +kernel, by decide, _, _, rfl⟩
theorem lv4_67 : LV RX4 67 uX4_isLastBaseShared 0 4 := ⟨⟨by decide +kernel, by decide +kernel, by decide +kernel, by decide +kernel, by decide +kernel⟩, by decide +kernel, by decide +kernel, by decide, _, _, rfl⟩
theorem ln4_93 : LN RX4 93 uX5_baseOf 3 := ⟨"VariantKit", by decide +kernel, by decide +kernel, by decide +kernel, by decide +kernel, by decide +kernel, by decide +kernel⟩
theorem ln4_84 : LN RX4 84 uX5_lowBases 1 := ⟨"VariantKit", by decide +kernel, by decide +kernel, by decide +kernel, by decide +kernel, by decide +kernel, by decide +kernel⟩
theorem lv4_81 : LV RX4 81 uX4_isFirstBaseShared 0 4 := ⟨⟨by decide +kernel, by decide +kernel, by decide +kernel, by decide +kernel, by decide +kernel⟩, by decide +kernel, by decide +kernel, by decide, _, _, rfl⟩
theorem lv4_59 : LV RX4 59 uX4_trimEnd 1 4 := ⟨⟨by decide +kernel, by decide +kernel, by decide +kernel, by decide +kernel, by decide +kernel⟩, by decide +kernel, by decide +kernel, by decide, _, _, rfl⟩
theorem lv4_63 : LV RX4 63 uX4_trimFront 0 4 := ⟨⟨by decide +kernel, by decide +kernel, by decide +kernel, by decide +kernel, by decide +kernel⟩, by decide +kernel, by decide +kernel, by decide, _, _, rfl⟩
theorem fl5_34 : FL RX5 34 5 4 true (.object "VariantKit$Variant") := ⟨_, _, _, _, cf5, by decide, rfl, rfl, Or.inl (by decide +kernel)⟩
theorem fl5_184 : FL RX5 184 2 0 true (.array (.object "VariantKit$Variant")) := ⟨_, _, _, _, cf2, by decide, rfl, rfl, Or.inr ⟨"VariantKit", by decide +kernel⟩⟩
theorem lv5_188 : LV RX5 188 uX4_copy 1 4 := ⟨⟨by decide +kernel, by decide +kernel, by decide +kernel, by decide +kernel, by decide +kernel⟩, by decide +kernel, by decide +kernel, by decide, _, _, rfl⟩
theorem lv5_192 : LV RX5 192 uX4_trim 1 4 := ⟨⟨by decide +kernel, by decide +kernel, by decide +kernel, by decide +kernel, by decide +kernel⟩, by decide +kernel, by decide +kernel, by decide, _, _, rfl⟩
theorem lv4_107 : LV RX4 107 uX4_appendAllele 2 4 := ⟨⟨by decide +kernel, by decide +kernel, by decide +kernel, by decide +kernel, by decide +kernel⟩, by decide +kernel, by decide +kernel, by decide, _, _, rfl⟩
theorem wm5_283 : Cond.methodLink RX5 283 Lib.Math.min.name ∈ lw_tbl := by decide +kernel
theorem wm5_288 : Cond.methodLink RX5 288 Lib.Math.max.name ∈ lw_tbl := by decide +kernel
theorem ln4_104 : LN RX4 104 uX5_pairNumber 2 := ⟨"VariantKit", by decide +kernel, by decide +kernel, by decide +kernel, by decide +kernel, by decide +kernel, by decide +kernel⟩
theorem lv4_97 : LV RX4 97 uX4_clear 0 4 := ⟨⟨by decide +kernel, by decide +kernel, by decide +kernel, by decide +kernel, by decide +kernel⟩, by decide +kernel, by decide +kernel, by decide, _, _, rfl⟩
theorem lv4_100 : LV RX4 100 uX4_appendAlleleOf 2 4 := ⟨⟨by decide +kernel, by decide +kernel, by decide +kernel, by decide +kernel, by decide +kernel⟩, by decide +kernel, by decide +kernel, by decide, _, _, rfl⟩
theorem lv5_200 : LV RX5 200 uX2_open 1 2 := ⟨⟨by decide +kernel, by decide +kernel, by decide +kernel, by decide +kernel, by decide +kernel⟩, by decide +kernel, by decide +kernel, by decide, _, _, rfl⟩
theorem lv5_204 : LV RX5 204 uX4_becomePart 2 4 := ⟨⟨by decide +kernel, by decide +kernel, by decide +kernel, by decide +kernel, by decide +kernel⟩, by decide +kernel, by decide +kernel, by decide, _, _, rfl⟩
theorem fl1_24 : FL RX1 24 1 3 true (.array (.int)) := ⟨_, _, _, _, cf1, by decide, rfl, rfl, Or.inl (by decide +kernel)⟩
theorem fl1_18 : FL RX1 18 1 1 true (.object "VariantKit$Variant") := ⟨_, _, _, _, cf1, by decide, rfl, rfl, Or.inl (by decide +kernel)⟩
theorem fl1_61 : FL RX1 61 4 2 false (.int) := ⟨_, _, _, _, cf4, by decide, rfl, rfl, Or.inr ⟨"VariantKit", by decide +kernel⟩⟩
theorem fl1_21 : FL RX1 21 1 2 true (.object "VariantKit$Variant") := ⟨_, _, _, _, cf1, by decide, rfl, rfl, Or.inl (by decide +kernel)⟩
theorem fl1_64 : FL RX1 64 4 3 true (.array (.int)) := ⟨_, _, _, _, cf4, by decide, rfl, rfl, Or.inr ⟨"VariantKit", by decide +kernel⟩⟩
theorem fl1_67 : FL RX1 67 4 4 true (.array (.int)) := ⟨_, _, _, _, cf4, by decide, rfl, rfl, Or.inr ⟨"VariantKit", by decide +kernel⟩⟩
theorem lv1_70 : LV RX1 70 uX4_find 2 4 := ⟨⟨by decide +kernel, by decide +kernel, by decide +kernel, by decide +kernel, by decide +kernel⟩, by decide +kernel, by decide +kernel, by decide, _, _, rfl⟩
theorem lv1_73 : LV RX1 73 uX4_appendAlleleOf 2 4 := ⟨⟨by decide +kernel, by decide +kernel, by decide +kernel, by decide +kernel, by decide +kernel⟩, by decide +kernel, by decide +kernel, by decide, _, _, rfl⟩
theorem fl1_12 : FL RX1 12 1 0 true (.object "VariantKit$Variant") := ⟨_, _, _, _, cf1, by decide, rfl, rfl, Or.inl (by decide +kernel)⟩
theorem fl1_77 : FL RX1 77 4 5 true (.array (.int)) := ⟨_, _, _, _, cf4, by decide, rfl, rfl, Or.inr ⟨"VariantKit", by decide +kernel⟩⟩
theorem wm1_80 : Cond.methodLink RX1 80 Lib.Math.min.name ∈ lw_tbl := by decide +kernel
theorem wm1_46 : Cond.methodLink RX1 46 Lib.Math.max.name ∈ lw_tbl := by decide +kernel
theorem fl1_89 : FL RX1 89 4 7 true (.array (.boolean)) := ⟨_, _, _, _, cf4, by decide, rfl, rfl, Or.inr ⟨"VariantKit", by decide +kernel⟩⟩
theorem fl1_83 : FL RX1 83 4 6 true (.array (.int)) := ⟨_, _, _, _, cf4, by decide, rfl, rfl, Or.inr ⟨"VariantKit", by decide +kernel⟩⟩
theorem lv1_86 : LV RX1 86 uX1_unitedAllele 2 1 := ⟨⟨by decide +kernel, by decide +kernel, by decide +kernel, by decide +kernel, by decide +kernel⟩, by decide +kernel, by decide +kernel, by decide, _, _, rfl⟩
theorem ln1_110 : LN RX1 110 uX5_pairNumber 2 := ⟨"VariantKit", by decide +kernel, by decide +kernel, by decide +kernel, by decide +kernel, by decide +kernel, by decide +kernel⟩
theorem fl1_97 : FL RX1 97 4 8 true (.array (.int)) := ⟨_, _, _, _, cf4, by decide, rfl, rfl, Or.inr ⟨"VariantKit", by decide +kernel⟩⟩
theorem lv1_100 : LV RX1 100 uX4_pairs 0 4 := ⟨⟨by decide +kernel, by decide +kernel, by decide +kernel, by decide +kernel, by decide +kernel⟩, by decide +kernel, by decide +kernel, by decide, _, _, rfl⟩
theorem wy1_104 : Cond.methodLink RX1 104 arraycopyName ∈ lw_tbl := by decide +kernel
theorem lv1_93 : LV RX1 93 uX4_fillLikelihoods 1 4 := ⟨⟨by decide +kernel, by decide +kernel, by decide +kernel, by decide +kernel, by decide +kernel⟩, by decide +kernel, by decide +kernel, by decide, _, _, rfl⟩
theorem lv1_28 : LV RX1 28 uX4_copy 1 4 := ⟨⟨by decide +kernel, by decide +kernel, by decide +kernel, by decide +kernel, by decide +kernel⟩, by decide +kernel, by decide +kernel, by decide, _, _, rfl⟩
theorem lv1_32 : LV RX1 32 uX4_lengthenLike 1 4 := ⟨⟨by decide +kernel, by decide +kernel, by decide +kernel, by decide +kernel, by decide +kernel⟩, by decide +kernel, by decide +kernel, by decide, _, _, rfl⟩
theorem lv1_35 : LV RX1 35 uX4_hasTooLongAllele 0 4 := ⟨⟨by decide +kernel, by decide +kernel, by decide +kernel, by decide +kernel, by decide +kernel⟩, by decide +kernel, by decide +kernel, by decide, _, _, rfl⟩
theorem lv1_39 : LV RX1 39 uX1_uniteAlleles 0 1 := ⟨⟨by decide +kernel, by decide +kernel, by decide +kernel, by decide +kernel, by decide +kernel⟩, by decide +kernel, by decide +kernel, by decide, _, _, rfl⟩
theorem fl1_42 : FL RX1 42 4 1 false (.int) := ⟨_, _, _, _, cf4, by decide, rfl, rfl, Or.inr ⟨"VariantKit", by decide +kernel⟩⟩
theorem lv1_52 : LV RX1 52 uX1_uniteDepths 0 1 := ⟨⟨by decide +kernel, by decide +kernel, by decide +kernel, by decide +kernel, by decide +kernel⟩, by decide +kernel, by decide +kernel, by decide, _, _, rfl⟩
theorem lv1_55 : LV RX1 55 uX1_uniteGenotypes 0 1 := ⟨⟨by decide +kernel, by decide +kernel, by decide +kernel, by decide +kernel, by decide +kernel⟩, by decide +kernel, by decide +kernel, by decide, _, _, rfl⟩
theorem lv1_58 : LV RX1 58 uX1_uniteLikelihoods 0 1 := ⟨⟨by decide +kernel, by decide +kernel, by decide +kernel, by decide +kernel, by decide +kernel⟩, by decide +kernel, by decide +kernel, by decide, _, _, rfl⟩
theorem fl5_40 : FL RX5 40 5 5 true (.object "VariantKit$Joiner") := ⟨_, _, _, _, cf5, by decide, rfl, rfl, Or.inl (by decide +kernel)⟩
theorem lv5_213 : LV RX5 213 uX1_unite 2 1 := ⟨⟨by decide +kernel, by decide +kernel, by decide +kernel, by decide +kernel, by decide +kernel⟩, by decide +kernel, by decide +kernel, by decide, _, _, rfl⟩
theorem fl5_219 : FL RX5 219 1 2 true (.object "VariantKit$Variant") := ⟨_, _, _, _, cf1, by decide, rfl, rfl, Or.inr ⟨"VariantKit", by decide +kernel⟩⟩
theorem fl0_9 : FL RX0 9 0 0 true (.array (.int)) := ⟨_, _, _, _, cf0, by decide, rfl, rfl, Or.inl (by decide +kernel)⟩
theorem lv0_22 : LV RX0 22 uX0_put 1 0 := ⟨⟨by decide +kernel, by decide +kernel, by decide +kernel, by decide +kernel, by decide +kernel⟩, by decide +kernel, by decide +kernel, by decide, _, _, rfl⟩
theorem wg0_71 : Cond.fieldLink RX0 71 RX5 "LETTERS" "[I" ∈ lw_tbl := by decide +kernel
theorem ln0_74 : LN RX0 74 uX5_baseOf 3 := ⟨"VariantKit", by decide +kernel, by decide +kernel, by decide +kernel, by decide +kernel, by decide +kernel, by decide +kernel⟩
theorem lv0_31 : LV RX0 31 uX0_putNumber 2 0 := ⟨⟨by decide +kernel, by decide +kernel, by decide +kernel, by decide +kernel, by decide +kernel⟩, by decide +kernel, by decide +kernel, by decide, _, _, rfl⟩
theorem fl0_61 : FL RX0 61 4 6 true (.array (.int)) := ⟨_, _, _, _, cf4, by decide, rfl, rfl, Or.inr ⟨"VariantKit", by decide +kernel⟩⟩
theorem fl0_64 : FL RX0 64 4 8 true (.array (.int)) := ⟨_, _, _, _, cf4, by decide, rfl, rfl, Or.inr ⟨"VariantKit", by decide +kernel⟩⟩
theorem lv0_67 : LV RX0 67 uX4_pairs 0 4 := ⟨⟨by decide +kernel, by decide +kernel, by decide +kernel, by decide +kernel, by decide +kernel⟩, by decide +kernel, by decide +kernel, by decide, _, _, rfl⟩
theorem lv0_53 : LV RX0 53 uX0_putNumbers 3 0 := ⟨⟨by decide +kernel, by decide +kernel, by decide +kernel, by decide +kernel, by decide +kernel⟩, by decide +kernel, by decide +kernel, by decide, _, _, rfl⟩
theorem fl0_57 : FL RX0 57 4 7 true (.array (.boolean)) := ⟨_, _, _, _, cf4, by decide, rfl, rfl, Or.inr ⟨"VariantKit", by decide +kernel⟩⟩
theorem fl0_38 : FL RX0 38 4 2 false (.int) := ⟨_, _, _, _, cf4, by decide, rfl, rfl, Or.inr ⟨"VariantKit", by decide +kernel⟩⟩
theorem fl0_50 : FL RX0 50 4 5 true (.array (.int)) := ⟨_, _, _, _, cf4, by decide, rfl, rfl, Or.inr ⟨"VariantKit", by decide +kernel⟩⟩
theorem fl0_41 : FL RX0 41 4 3 true (.array (.int)) := ⟨_, _, _, _, cf4, by decide, rfl, rfl, Or.inr ⟨"VariantKit", by decide +kernel⟩⟩
theorem fl0_44 : FL RX0 44 4 4 true (.array (.int)) := ⟨_, _, _, _, cf4, by decide, rfl, rfl, Or.inr ⟨"VariantKit", by decide +kernel⟩⟩
theorem lv0_47 : LV RX0 47 uX0_putAllele 2 0 := ⟨⟨by decide +kernel, by decide +kernel, by decide +kernel, by decide +kernel, by decide +kernel⟩, by decide +kernel, by decide +kernel, by decide, _, _, rfl⟩
theorem fl0_26 : FL RX0 26 4 0 false (.int) := ⟨_, _, _, _, cf4, by decide, rfl, rfl, Or.inr ⟨"VariantKit", by decide +kernel⟩⟩
theorem fl0_35 : FL RX0 35 4 1 false (.int) := ⟨_, _, _, _, cf4, by decide, rfl, rfl, Or.inr ⟨"VariantKit", by decide +kernel⟩⟩
theorem fl5_51 : FL RX5 51 5 7 true (.object "VariantKit$ByteRow") := ⟨_, _, _, _, cf5, by decide, rfl, rfl, Or.inl (by decide +kernel)⟩
theorem lv5_222 : LV RX5 222 uX0_putVariant 1 0 := ⟨⟨by decide +kernel, by decide +kernel, by decide +kernel, by decide +kernel, by decide +kernel⟩, by decide +kernel, by decide +kernel, by decide, _, _, rfl⟩
theorem tw_228_232 : TW 228 232 "java/lang/IndexOutOfBoundsException" := ⟨by decide +kernel, by decide +kernel, by decide +kernel, by decide +kernel⟩
theorem fl5_225 : FL RX5 225 0 1 false (.int) := ⟨_, _, _, _, cf0, by decide, rfl, rfl, Or.inr ⟨"VariantKit", by decide +kernel⟩⟩
theorem fl5_233 : FL RX5 233 0 0 true (.array (.int)) := ⟨_, _, _, _, cf0, by decide, rfl, rfl, Or.inr ⟨"VariantKit", by decide +kernel⟩⟩
theorem fl5_47 : FL RX5 47 5 6 true (.object "VariantKit$ByteRow") := ⟨_, _, _, _, cf5, by decide, rfl, rfl, Or.inl (by decide +kernel)⟩
theorem lv5_238 : LV RX5 238 uX0_put 1 0 := ⟨⟨by decide +kernel, by decide +kernel, by decide +kernel, by decide +kernel, by decide +kernel⟩, by decide +kernel, by decide +kernel, by decide, _, _, rfl⟩
theorem lv0_78 : LV RX0 78 uX0_take 0 0 := ⟨⟨by decide +kernel, by decide +kernel, by decide +kernel, by decide +kernel, by decide +kernel⟩, by decide +kernel, by decide +kernel, by decide, _, _, rfl⟩
theorem lv0_110 : LV RX0 110 uX3_covers 2 3 := ⟨⟨by decide +kernel, by decide +kernel, by decide +kernel, by decide +kernel, by decide +kernel⟩, by decide +kernel, by decide +kernel, by decide, _, _, rfl⟩
theorem lv0_116 : LV RX0 116 uX3_packed 2 3 := ⟨⟨by decide +kernel, by decide +kernel, by decide +kernel, by decide +kernel, by decide +kernel⟩, by decide +kernel, by decide +kernel, by decide, _, _, rfl⟩
theorem lv0_100 : LV RX0 100 uX0_takeBases 1 0 := ⟨⟨by decide +kernel, by decide +kernel, by decide +kernel, by decide +kernel, by decide +kernel⟩, by decide +kernel, by decide +kernel, by decide, _, _, rfl⟩
theorem lv0_103 : LV RX0 103 uX4_find 2 4 := ⟨⟨by decide +kernel, by decide +kernel, by decide +kernel, by decide +kernel, by decide +kernel⟩, by decide +kernel, by decide +kernel, by decide, _, _, rfl⟩
theorem lv0_107 : LV RX0 107 uX4_appendAllele 2 4 := ⟨⟨by decide +kernel, by decide +kernel, by decide +kernel, by decide +kernel, by decide +kernel⟩, by decide +kernel, by decide +kernel, by decide, _, _, rfl⟩
theorem lv0_84 : LV RX0 84 uX0_takeNumber 1 0 := ⟨⟨by decide +kernel, by decide +kernel, by decide +kernel, by decide +kernel, by decide +kernel⟩, by decide +kernel, by decide +kernel, by decide, _, _, rfl⟩
theorem lv0_118 : LV RX0 118 uX4_allowsInGenotype 1 4 := ⟨⟨by decide +kernel, by decide +kernel, by decide +kernel, by decide +kernel, by decide +kernel⟩, by decide +kernel, by decide +kernel, by decide, _, _, rfl⟩
theorem lv0_96 : LV RX0 96 uX0_takeGenotype 2 0 := ⟨⟨by decide +kernel, by decide +kernel, by decide +kernel, by decide +kernel, by decide +kernel⟩, by decide +kernel, by decide +kernel, by decide, _, _, rfl⟩
theorem lv0_92 : LV RX0 92 uX0_takeNumbers 4 0 := ⟨⟨by decide +kernel, by decide +kernel, by decide +kernel, by decide +kernel, by decide +kernel⟩, by decide +kernel, by decide +kernel, by decide, _, _, rfl⟩
theorem lv0_81 : LV RX0 81 uX4_clear 0 4 := ⟨⟨by decide +kernel, by decide +kernel, by decide +kernel, by decide +kernel, by decide +kernel⟩, by decide +kernel, by decide +kernel, by decide, _, _, rfl⟩
theorem lv0_88 : LV RX0 88 uX0_takeAlleles 2 0 := ⟨⟨by decide +kernel, by decide +kernel, by decide +kernel, by decide +kernel, by decide +kernel⟩, by decide +kernel, by decide +kernel, by decide, _, _, rfl⟩
theorem lv5_275 : LV RX5 275 uX0_takeVariant 2 0 := ⟨⟨by decide +kernel, by decide +kernel, by decide +kernel, by decide +kernel, by decide +kernel⟩, by decide +kernel, by decide +kernel, by decide, _, _, rfl⟩
theorem lv5_279 : LV RX5 279 uX0_isSame 1 0 := ⟨⟨by decide +kernel, by decide +kernel, by decide +kernel, by decide +kernel, by decide +kernel⟩, by decide +kernel, by decide +kernel, by decide, _, _, rfl⟩
theorem lv5_241 : LV RX5 241 uX5_takeTyped 0 5 := ⟨⟨by decide +kernel, by decide +kernel, by decide +kernel, by decide +kernel, by decide +kernel⟩, by decide +kernel, by decide +kernel, by decide, _, _, rfl⟩
theorem lv4_55 : LV RX4 55 uX4_lastPlace 0 4 := ⟨⟨by decide +kernel, by decide +kernel, by decide +kernel, by decide +kernel, by decide +kernel⟩, by decide +kernel, by decide +kernel, by decide, _, _, rfl⟩
theorem fl5_246 : FL RX5 246 4 4 true (.array (.int)) := ⟨_, _, _, _, cf4, by decide, rfl, rfl, Or.inr ⟨"VariantKit", by decide +kernel⟩⟩
theorem lv5_249 : LV RX5 249 uX4_bin 0 4 := ⟨⟨by decide +kernel, by decide +kernel, by decide +kernel, by decide +kernel, by decide +kernel⟩, by decide +kernel, by decide +kernel, by decide, _, _, rfl⟩
theorem fl5_256 : FL RX5 256 4 3 true (.array (.int)) := ⟨_, _, _, _, cf4, by decide, rfl, rfl, Or.inr ⟨"VariantKit", by decide +kernel⟩⟩
theorem ls5_258 : LSt RX5 258 uX5_baseOf 3 := ⟨⟨by decide +kernel, by decide +kernel, by decide +kernel, by decide +kernel, by decide +kernel⟩, by decide +kernel⟩
theorem lv5_265 : LV RX5 265 uX4_spansOneOf 2 4 := ⟨⟨by decide +kernel, by decide +kernel, by decide +kernel, by decide +kernel, by decide +kernel⟩, by decide +kernel, by decide +kernel, by decide, _, _, rfl⟩
theorem ls5_262 : LSt RX5 262 uX5_requireRegion 2 := ⟨⟨by decide +kernel, by decide +kernel, by decide +kernel, by decide +kernel, by decide +kernel⟩, by decide +kernel⟩
theorem wf5_268 : Cond.constantFloat RX5 268 (1040187392 : UInt32) ∈ lw_tbl := by decide +kernel
theorem wo6_1 : Cond.methodLink RX6 1 objectInit ∈ lw_tbl := by decide +kernel
theorem ff6_7 : FF RX6 7 6 1 (.array (.int)) := ⟨_, _, _, _, cf6, by decide, rfl, rfl, rfl, by decide +kernel⟩
theorem ff6_13 : FF RX6 13 6 5 (.array (.int)) := ⟨_, _, _, _, cf6, by decide, rfl, rfl, rfl, by decide +kernel⟩
theorem ff6_16 : FF RX6 16 6 6 (.array (.int)) := ⟨_, _, _, _, cf6, by decide, rfl, rfl, rfl, by decide +kernel⟩
theorem ff6_19 : FF RX6 19 6 8 (.array (.int)) := ⟨_, _, _, _, cf6, by decide, rfl, rfl, rfl, by decide +kernel⟩
theorem ff6_22 : FF RX6 22 6 10 (.array (.int)) := ⟨_, _, _, _, cf6, by decide, rfl, rfl, rfl, by decide +kernel⟩
theorem fl6_25 : FL RX6 25 6 0 false (.int) := ⟨_, _, _, _, cf6, by decide, rfl, rfl, Or.inl (by decide +kernel)⟩
theorem fl6_13 : FL RX6 13 6 5 true (.array (.int)) := ⟨_, _, _, _, cf6, by decide, rfl, rfl, Or.inl (by decide +kernel)⟩
theorem lv6_29 : LV RX6 29 uX6_put 3 6 := ⟨⟨by decide +kernel, by decide +kernel, by decide +kernel, by decide +kernel, by decide +kernel⟩, by decide +kernel, by decide +kernel, by decide, _, _, rfl⟩
theorem lv6_33 : LV RX6 33 uX6_get 2 6 := ⟨⟨by decide +kernel, by decide +kernel, by decide +kernel, by decide +kernel, by decide +kernel⟩, by decide +kernel, by decide +kernel, by decide, _, _, rfl⟩
theorem fl6_7 : FL RX6 7 6 1 true (.array (.int)) := ⟨_, _, _, _, cf6, by decide, rfl, rfl, Or.inl (by decide +kernel)⟩
theorem fl6_37 : FL RX6 37 6 2 false (.int) := ⟨_, _, _, _, cf6, by decide, rfl, rfl, Or.inl (by decide +kernel)⟩
theorem wl6_51 : Cond.constantLong RX6 51 (3 : Int64) ∈ lw_tbl := by decide +kernel
theorem lv6_47 : LV RX6 47 uX6_throwing 2 6 := ⟨⟨by decide +kernel, by decide +kernel, by decide +kernel, by decide +kernel, by decide +kernel⟩, by decide +kernel, by decide +kernel, by decide, _, _, rfl⟩
theorem fl6_40 : FL RX6 40 6 3 false (.boolean) := ⟨_, _, _, _, cf6, by decide, rfl, rfl, Or.inl (by decide +kernel)⟩
theorem fl6_44 : FL RX6 44 6 4 false (.int) := ⟨_, _, _, _, cf6, by decide, rfl, rfl, Or.inl (by decide +kernel)⟩
theorem lv6_53 : LV RX6 53 uX6_empty 2 6 := ⟨⟨by decide +kernel, by decide +kernel, by decide +kernel, by decide +kernel, by decide +kernel⟩, by decide +kernel, by decide +kernel, by decide, _, _, rfl⟩
theorem lv6_57 : LV RX6 57 uX6_referenceFrom 2 6 := ⟨⟨by decide +kernel, by decide +kernel, by decide +kernel, by decide +kernel, by decide +kernel⟩, by decide +kernel, by decide +kernel, by decide, _, _, rfl⟩
theorem lv6_60 : LV RX6 60 uX6_addAllele 3 6 := ⟨⟨by decide +kernel, by decide +kernel, by decide +kernel, by decide +kernel, by decide +kernel⟩, by decide +kernel, by decide +kernel, by decide, _, _, rfl⟩
theorem lv6_63 : LV RX6 63 uX6_findAllele 3 6 := ⟨⟨by decide +kernel, by decide +kernel, by decide +kernel, by decide +kernel, by decide +kernel⟩, by decide +kernel, by decide +kernel, by decide, _, _, rfl⟩
theorem ls6_67 : LSt RX6 67 uX6_out 2 := ⟨⟨by decide +kernel, by decide +kernel, by decide +kernel, by decide +kernel, by decide +kernel⟩, by decide +kernel⟩
theorem ls6_70 : LSt RX6 70 uX6_pairs 1 := ⟨⟨by decide +kernel, by decide +kernel, by decide +kernel, by decide +kernel, by decide +kernel⟩, by decide +kernel⟩
theorem lv6_81 : LV RX6 81 uX6_copy 2 6 := ⟨⟨by decide +kernel, by decide +kernel, by decide +kernel, by decide +kernel, by decide +kernel⟩, by decide +kernel, by decide +kernel, by decide, _, _, rfl⟩
theorem lv6_77 : LV RX6 77 uX6_open 1 6 := ⟨⟨by decide +kernel, by decide +kernel, by decide +kernel, by decide +kernel, by decide +kernel⟩, by decide +kernel, by decide +kernel, by decide, _, _, rfl⟩
theorem lv6_74 : LV RX6 74 uX6_enter 1 6 := ⟨⟨by decide +kernel, by decide +kernel, by decide +kernel, by decide +kernel, by decide +kernel⟩, by decide +kernel, by decide +kernel, by decide, _, _, rfl⟩
theorem lv6_84 : LV RX6 84 uX6_close 1 6 := ⟨⟨by decide +kernel, by decide +kernel, by decide +kernel, by decide +kernel, by decide +kernel⟩, by decide +kernel, by decide +kernel, by decide, _, _, rfl⟩
theorem lv6_87 : LV RX6 87 uX6_edge 3 6 := ⟨⟨by decide +kernel, by decide +kernel, by decide +kernel, by decide +kernel, by decide +kernel⟩, by decide +kernel, by decide +kernel, by decide, _, _, rfl⟩
theorem lv6_94 : LV RX6 94 uX6_same 2 6 := ⟨⟨by decide +kernel, by decide +kernel, by decide +kernel, by decide +kernel, by decide +kernel⟩, by decide +kernel, by decide +kernel, by decide, _, _, rfl⟩
theorem lv6_91 : LV RX6 91 uX6_shortest 1 6 := ⟨⟨by decide +kernel, by decide +kernel, by decide +kernel, by decide +kernel, by decide +kernel⟩, by decide +kernel, by decide +kernel, by decide, _, _, rfl⟩
theorem lv6_98 : LV RX6 98 uX6_step 1 6 := ⟨⟨by decide +kernel, by decide +kernel, by decide +kernel, by decide +kernel, by decide +kernel⟩, by decide +kernel, by decide +kernel, by decide, _, _, rfl⟩
theorem ls6_102 : LSt RX6 102 uX6_pair 2 := ⟨⟨by decide +kernel, by decide +kernel, by decide +kernel, by decide +kernel, by decide +kernel⟩, by decide +kernel⟩
theorem lv6_105 : LV RX6 105 uX6_part 2 6 := ⟨⟨by decide +kernel, by decide +kernel, by decide +kernel, by decide +kernel, by decide +kernel⟩, by decide +kernel, by decide +kernel, by decide, _, _, rfl⟩
theorem fl6_22 : FL RX6 22 6 10 true (.array (.int)) := ⟨_, _, _, _, cf6, by decide, rfl, rfl, Or.inl (by decide +kernel)⟩
theorem lv6_108 : LV RX6 108 uX6_back 3 6 := ⟨⟨by decide +kernel, by decide +kernel, by decide +kernel, by decide +kernel, by decide +kernel⟩, by decide +kernel, by decide +kernel, by decide, _, _, rfl⟩
theorem lv6_111 : LV RX6 111 uX6_likely 5 6 := ⟨⟨by decide +kernel, by decide +kernel, by decide +kernel, by decide +kernel, by decide +kernel⟩, by decide +kernel, by decide +kernel, by decide, _, _, rfl⟩
theorem lv6_118 : LV RX6 118 uX6_joinSample 3 6 := ⟨⟨by decide +kernel, by decide +kernel, by decide +kernel, by decide +kernel, by decide +kernel⟩, by decide +kernel, by decide +kernel, by decide, _, _, rfl⟩
theorem lv6_115 : LV RX6 115 uX6_gather 2 6 := ⟨⟨by decide +kernel, by decide +kernel, by decide +kernel, by decide +kernel, by decide +kernel⟩, by decide +kernel, by decide +kernel, by decide, _, _, rfl⟩
theorem fl6_16 : FL RX6 16 6 6 true (.array (.int)) := ⟨_, _, _, _, cf6, by decide, rfl, rfl, Or.inl (by decide +kernel)⟩
theorem fl6_121 : FL RX6 121 6 7 false (.int) := ⟨_, _, _, _, cf6, by decide, rfl, rfl, Or.inl (by decide +kernel)⟩
theorem lv6_124 : LV RX6 124 uX6_write 1 6 := ⟨⟨by decide +kernel, by decide +kernel, by decide +kernel, by decide +kernel, by decide +kernel⟩, by decide +kernel, by decide +kernel, by decide, _, _, rfl⟩
theorem lv6_130 : LV RX6 130 uX6_writeRow 3 6 := ⟨⟨by decide +kernel, by decide +kernel, by decide +kernel, by decide +kernel, by decide +kernel⟩, by decide +kernel, by decide +kernel, by decide, _, _, rfl⟩
theorem ls6_127 : LSt RX6 127 uX6_letter 1 := ⟨⟨by decide +kernel, by decide +kernel, by decide +kernel, by decide +kernel, by decide +kernel⟩, by decide +kernel⟩
theorem lv6_133 : LV RX6 133 uX6_writeOut 1 6 := ⟨⟨by decide +kernel, by decide +kernel, by decide +kernel, by decide +kernel, by decide +kernel⟩, by decide +kernel, by decide +kernel, by decide, _, _, rfl⟩
theorem fl6_19 : FL RX6 19 6 8 true (.array (.int)) := ⟨_, _, _, _, cf6, by decide, rfl, rfl, Or.inl (by decide +kernel)⟩
theorem fl6_136 : FL RX6 136 6 9 false (.int) := ⟨_, _, _, _, cf6, by decide, rfl, rfl, Or.inl (by decide +kernel)⟩
theorem wl6_139 : Cond.constantLong RX6 139 (255 : Int64) ∈ lw_tbl := by decide +kernel
theorem lv6_141 : LV RX6 141 uX6_byteAt 1 6 := ⟨⟨by decide +kernel, by decide +kernel, by decide +kernel, by decide +kernel, by decide +kernel⟩, by decide +kernel, by decide +kernel, by decide, _, _, rfl⟩
theorem lv6_144 : LV RX6 144 uX6_twoAt 1 6 := ⟨⟨by decide +kernel, by decide +kernel, by decide +kernel, by decide +kernel, by decide +kernel⟩, by decide +kernel, by decide +kernel, by decide, _, _, rfl⟩
theorem lv6_150 : LV RX6 150 uX6_readRow 3 6 := ⟨⟨by decide +kernel, by decide +kernel, by decide +kernel, by decide +kernel, by decide +kernel⟩, by decide +kernel, by decide +kernel, by decide, _, _, rfl⟩
theorem lv6_153 : LV RX6 153 uX6_inRange 1 6 := ⟨⟨by decide +kernel, by decide +kernel, by decide +kernel, by decide +kernel, by decide +kernel⟩, by decide +kernel, by decide +kernel, by decide, _, _, rfl⟩
theorem ls6_147 : LSt RX6 147 uX6_baseOf 1 := ⟨⟨by decide +kernel, by decide +kernel, by decide +kernel, by decide +kernel, by decide +kernel⟩, by decide +kernel⟩
theorem lv6_156 : LV RX6 156 uX6_taken 0 6 := ⟨⟨by decide +kernel, by decide +kernel, by decide +kernel, by decide +kernel, by decide +kernel⟩, by decide +kernel, by decide +kernel, by decide, _, _, rfl⟩
theorem lv6_160 : LV RX6 160 uX6_binOf 1 6 := ⟨⟨by decide +kernel, by decide +kernel, by decide +kernel, by decide +kernel, by decide +kernel⟩, by decide +kernel, by decide +kernel, by decide, _, _, rfl⟩
theorem lv6_166 : LV RX6 166 uX6_spans 3 6 := ⟨⟨by decide +kernel, by decide +kernel, by decide +kernel, by decide +kernel, by decide +kernel⟩, by decide +kernel, by decide +kernel, by decide, _, _, rfl⟩
theorem lv6_163 : LV RX6 163 uX6_isBad 2 6 := ⟨⟨by decide +kernel, by decide +kernel, by decide +kernel, by decide +kernel, by decide +kernel⟩, by decide +kernel, by decide +kernel, by decide, _, _, rfl⟩
theorem wf6_170 : Cond.constantFloat RX6 170 (1040187392 : UInt32) ∈ lw_tbl := by decide +kernel
