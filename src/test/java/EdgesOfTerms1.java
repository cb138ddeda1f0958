/** The sentences of part 1 of the terms that name an edge: the disk, chunks, room, places. */
public final class EdgesOfTerms1 {
    private EdgesOfTerms1() {
    }

    public static void main(String[] args) throws Exception {
        Cases.run(EdgesOfTerms1.class);
    }

    // ---- at first ----

    static void terms1_atFirst_allBytesAre0() {
        for (int e = 0; e < 8; e++) {
            Run r = new Run();
            for (int n = 0; n < 256; n++) {
                r.due(0, r.disk(e, n / 16, n % 16));
            }
        }
    }

    static void terms1_atFirst_slot0HasRecord0WithoutTables() {
        Run r = new Run();
        r.dueRecord(0, 0, 0, 0, 0, 0, 0, 0, 0, 0, 0, 0, 0, -1, -1, -1, -1, -1, -1);
    }

    static void terms1_atFirst_slot1HasNone() {
        Run r = new Run();
        r.dueRecord(1, -1, -1, -1, -1, -1, -1, -1, -1, -1, -1, -1, -1, -1, -1, -1, -1, -1, -1);
    }

    static void terms1_atFirst_noExtentIsOpenAndTheFirstChunkOpens0() {
        Run r = new Run();
        r.due(-1, r.about(4));
        r.due(8, r.about(3));
        r.put(9, 0);
        r.due(0, r.about(4));
        r.due(7, r.about(3));
    }

    // ---- a chunk's bytes ----

    static void terms1_chunk_ofNoBytes() {
        Run r = new Run();
        r.put(47, 0);
        r.due(1, r.about(1));
        r.settle(200);
        r.dueWholeBlock(0, 0, 165, 1, 47, 0, 0, 0, 0, 0);
        r.put(0, 0);
        r.settle(200);
        r.dueWholeBlock(0, 1, 165, 1, 0, 0, 0, 1, 0, 1);
    }

    static void terms1_chunk_thatEndsWithItsBlock() {
        Run r = new Run();
        r.put(1, 0);
        r.store(2, 8);
        r.due(2, r.about(1));
        r.settle(200);
        r.dueBlock(0, 1, 165, 1, 2, 8, 0, 1, 1, 2, 3, 4, 5, 6, 7, 8, 0, 1);
        r.dueWholeBlock(0, 2);
        r.due(2, r.extent(0, 0));
    }

    static void terms1_chunk_ofOneByteMoreThanABlock() {
        Run r = new Run();
        r.put(1, 0);
        r.store(2, 9);
        r.due(3, r.about(1));
        r.settle(200);
        r.dueBlock(0, 1, 165, 1, 2, 9, 0, 1, 1, 2, 3, 4, 5, 6, 7, 8, 9, 0);
        r.dueWholeBlock(0, 2, 1);
    }

    static void terms1_chunk_whoseStampBeginsItsSecondBlock() {
        Run r = new Run();
        r.put(1, 0);
        r.store(2, 10);
        r.settle(200);
        r.dueBlock(0, 1, 165, 1, 2, 10, 0, 1, 1, 2, 3, 4, 5, 6, 7, 8, 9, 10);
        r.dueWholeBlock(0, 2, 0, 1);
    }

    static void terms1_chunk_ofTwoBlocksToTheLastByteAndOneMore() {
        Run r = new Run();
        r.store(2, 24);
        r.due(2, r.about(1));
        r.store(3, 25);
        r.due(5, r.about(1));
        r.settle(200);
        r.dueBlock(0, 1, 11, 12, 13, 14, 15, 16, 17, 18, 19, 20, 21, 22, 23, 24, 0, 0);
        r.dueBlock(0, 3, 11, 12, 13, 14, 15, 16, 17, 18, 19, 20, 21, 22, 23, 24, 25, 0);
        r.dueWholeBlock(0, 4, 1);
    }

    static void terms1_chunk_ofTheLongestObject() {
        Run r = new Run();
        r.storeSeven(3);
        r.due(7, r.about(1));
        r.settle(200);
        r.dueBlock(0, 0, 165, 1, 3, 100, 0, 0, 1, 2);
        r.dueWholeBlock(0, 6, 91, 92, 93, 94, 95, 96, 97, 98, 99, 100, 0, 0);
    }

    static void terms1_chunk_bytesAbove127() {
        Run r = new Run();
        r.feed(0xFF80817F, -1, 0, 0, 0);
        r.put(0, 6);
        r.settle(200);
        r.dueWholeBlock(0, 0, 165, 1, 0, 6, 0, 0, 255, 128, 129, 127, 255, 255, 0, 0);
    }

    static void terms1_chunk_0UpToTheEndAlsoWhereOtherBytesWere() {
        Run r = new Run();
        r.storeSeven(0);
        r.storeSeven(1);
        r.storeSeven(2);
        r.delete(0);
        r.delete(1);
        r.settle(200);
        r.due(0, r.reclaim(0));
        r.settle(200);
        r.storeSeven(3);
        r.storeSeven(4);
        r.due(0, r.about(4));
        r.put(5, 0);
        r.due(16 * 0 + 7, r.waiting(14, 1));
        r.due(1, r.disk(0, 7, 6));
        r.settle(200);
        r.dueWholeBlock(0, 7, 165, 1, 5, 0, 0, 6, 0, 6);
    }

    static void terms1_chunk_ofATableHasKey0() {
        Run r = new Run();
        r.put(40, 0);
        r.flush();
        r.settle(200);
        r.dueWholeBlock(0, 1, 165, 2, 0, 4, 0, 1, 1, 40, 0, 0, 0, 1);
    }

    // ---- stamps ----

    /** Comes to STAMPS 256 with extents 0 to 2, 4 and 5 full, the last one open; 79 writes wait. */
    private static void make256Chunks(Run r) {
        r.putOnes(0, 96);
        for (int e = 0; e < 5; e++) {
            r.due(0, r.reclaim(e));
        }
        r.settle(200);
        r.putOnes(0, 79);
        for (int e : new int[] {5, 6, 0, 1, 2}) {
            r.due(0, r.reclaim(e));
        }
        r.settle(200);
        r.putOnes(0, 79);
        r.due(256, r.about(10));
    }

    static void terms1_stamp_hasTheHigherByteFirst() {
        Run r = new Run();
        make256Chunks(r);
        r.due(1, r.flush());
        r.store(9, 9);
        r.settle(200);
        r.dueBlock(5, 15, 165, 1, 0, 0, 0, 255, 0, 255);
        r.dueWholeBlock(6, 0, 165, 2, 0, 4, 1, 0, 1, 0, 5, 15, 1, 0);
        r.dueBlock(6, 1, 165, 1, 9, 9, 1, 1, 1, 2, 3, 4, 5, 6, 7, 8, 9, 1);
        r.dueWholeBlock(6, 2, 1);
        r.due(258, r.about(10));
    }

    static void terms1_stamp_ofTheRecordIsAboveAByte() {
        Run r = new Run();
        make256Chunks(r);
        r.flush();
        r.settle(200);
        r.due(r.about(6), r.record(r.about(6) % 2, 0));
        r.due(257, r.record(r.about(6) % 2, 2));
        r.crash();
        r.due(1, r.recover());
        r.due(257, r.about(10));
    }

    /** No run of 512 calls comes to 65,536 chunks; this one comes to some 4,600. */
    static void terms1_stamp_ofThousandsOfChunks() {
        Run r = new Run();
        for (int key = 0; key < 17; key++) {
            r.put(key, 0);
        }
        int made = 17;
        for (int turn = 0; turn < 350; turn++) {
            int moved = turn < 2 ? 16 : 12;
            r.due(moved, r.reclaim(turn % 3));
            made += moved + 1;
            if (turn % 5 == 4) {
                r.settle(200);
            }
        }
        r.due(made, r.about(10));
        r.due(350, r.record(0, 0));
        r.due(made, r.record(0, 2));
        int extent = r.record(0, 12);
        int block = r.record(0, 13);
        int high = (made - 1) / 256;
        int low = (made - 1) % 256;
        r.dueBlock(extent, block, 165, 2, 0, 1 + 3 * 17, high, low, 17, 0);
        r.due(high, r.disk(extent, block + 3, 10));
        r.due(low, r.disk(extent, block + 3, 11));
        r.crash();
        r.due(17, r.recover());
        r.due(made, r.about(10));
    }

    static void terms1_stamp_isNotUsedUpByARefusedChunk() {
        Run r = new Run();
        States.withoutRoomForPut(r);
        r.due(-2, r.put(1, 0));
        r.due(96, r.about(10));
    }

    // ---- tables ----

    static void terms1_table_of0Entries() {
        Run r = new Run();
        r.putAndFlush(5, 3);
        r.delete(5);
        r.due(1, r.flush());
        r.settle(200);
        r.dueWholeBlock(0, 6, 165, 2, 0, 1, 0, 6, 0, 0, 6);
        r.crash();
        r.due(0, r.recover());
        r.due(1, r.about(8));
    }

    static void terms1_table_ofAll48Keys() {
        Run r = new Run();
        for (int key = 47; key >= 0; key--) {
            r.put(key, 0);
        }
        r.due(48, r.about(9));
        r.due(1, r.flush());
        r.due(10, r.extent(3, 0));
        r.dueWaits(48, 48, 48, 48, 48, 48, 48, 48, 48, 48, 48, 10);
        r.settle(200);
        r.dueBlock(3, 0, 165, 2, 0, 145, 0, 48, 48, 0, 2, 15, 1, 2, 14, 2, 2, 13);
        r.dueWholeBlock(3, 9, 2, 46, 0, 1, 47, 0, 0, 0, 48);
        r.crash();
        r.due(48, r.recover());
        r.due(10, r.about(5));
        r.due(47, r.list(47));
        r.due(-1, r.list(48));
        r.due(0, r.get(0));
        r.due(0, r.get(47));
    }

    static void terms1_table_of2EntriesHasOneBlock_of3Two() {
        Run r = new Run();
        r.put(1, 0);
        r.put(2, 0);
        r.flush();
        r.due(3, r.extent(0, 0));
        r.put(1, 0);
        r.put(2, 0);
        r.put(3, 0);
        r.flush();
        r.due(8, r.extent(0, 0));
    }

    static void terms1_table_entriesAreByTheirKeys() {
        Run r = new Run();
        r.put(47, 0);
        r.put(0, 0);
        r.flush();
        r.settle(200);
        r.dueWholeBlock(0, 2, 165, 2, 0, 7, 0, 2, 2, 0, 0, 1, 47, 0, 0, 0, 2);
    }

    static void terms1_table_goneIs255And0() {
        Run r = new Run();
        r.putOnes(1, 3);
        r.put(2, 0);
        r.delete(1);
        r.flush();
        r.settle(200);
        r.dueWholeBlock(0, 4, 165, 2, 0, 7, 0, 4, 2, 1, 255, 0, 2, 0, 3, 0, 4);
    }

    static void terms1_table_placeInTheLastBlockOfAnExtent() {
        Run r = new Run();
        r.putOnes(1, 16);
        r.flush();
        r.settle(200);
        r.dueWholeBlock(1, 0, 165, 2, 0, 4, 0, 16, 1, 1, 0, 15, 0, 16);
        r.crash();
        r.recover();
        r.due(0, r.get(1));
    }

    static void terms1_record_of0To3Tables() {
        Run r = new Run();
        r.due(0, r.record(0, 3));
        for (int tables = 1; tables <= 3; tables++) {
            r.putAndFlush(7, 1);
            r.settle(200);
            r.due(tables, r.record(tables % 2, 3));
            r.due(tables, r.about(8));
        }
        r.dueRecord(1, 3, 3, 6, 3, 6, 0, 0, 0, 0, 0, 0, 0, 0, 5, 0, 3, 0, 1);
    }

    static void terms1_record_aFourthTableTakesThePlaceOfThree() {
        Run r = new Run();
        r.putAndFlush(7, 4);
        r.settle(200);
        r.dueRecord(0, 4, 4, 8, 1, 8, 0, 0, 0, 0, 0, 0, 0, 0, 7, -1, -1, -1, -1);
        r.due(1, r.about(8));
    }

    // ---- where a chunk is made ----

    static void terms1_made_toTheLastBlockOfTheOpenExtent() {
        Run r = new Run();
        r.storeSeven(0);
        r.storeSeven(1);
        r.store(2, 24);
        r.due(16, r.extent(0, 0));
        r.due(0, r.about(4));
        r.dueTargets(14, 14, 15);
    }

    static void terms1_made_oneBlockTooManyOpensTheNext() {
        Run r = new Run();
        r.storeSeven(0);
        r.storeSeven(1);
        r.store(2, 25);
        r.due(14, r.extent(0, 0));
        r.due(3, r.extent(1, 0));
        r.due(1, r.about(4));
        r.dueTargets(14, 16, 17, 18);
    }

    static void terms1_made_whatIsLeftStaysUnused() {
        Run r = new Run();
        r.storeSeven(0);
        r.storeSeven(1);
        r.storeSeven(2);
        r.put(3, 0);
        r.due(14, r.extent(0, 0));
        r.due(8, r.extent(1, 0));
        r.due(16 + 7, r.waiting(21, 1));
    }

    static void terms1_made_aFullExtentIsOpenStill() {
        Run r = new Run();
        r.putOnes(0, 16);
        r.due(0, r.about(4));
        r.due(7, r.about(3));
        r.due(-1, r.reclaim(0));
    }

    static void terms1_made_theLowestEmptyIsOpenedAlsoBelowTheOpenOne() {
        Run r = new Run();
        r.putOnes(0, 49);
        r.due(0, r.reclaim(1));
        r.due(0, r.reclaim(0));
        r.putOnes(0, 14);
        r.due(3, r.about(4));
        r.put(0, 0);
        r.due(0, r.about(4));
        r.putOnes(0, 16);
        r.due(1, r.about(4));
        r.putOnes(0, 16);
        r.due(4, r.about(4));
    }

    static void terms1_made_aTableMayOpenTheNextToo() {
        Run r = new Run();
        r.putOnes(3, 16);
        r.flush();
        r.due(1, r.about(4));
        r.due(16, r.waiting(16, 1));
    }

    // ---- room ----

    static void terms1_room_putOpensWhenThreeAreEmpty() {
        Run r = new Run();
        r.putOnes(0, 80);
        r.due(3, r.about(3));
        r.due(81, r.put(1, 0));
        r.due(5, r.about(4));
        r.due(2, r.about(3));
    }

    static void terms1_room_putFindsNoneWhenTwoAreEmpty() {
        Run r = new Run();
        States.withoutRoomForPut(r);
        r.due(-2, r.put(1, 0));
        r.due(5, r.about(4));
    }

    static void terms1_room_putFitsTheOpenExtentWhenTwoAreEmpty() {
        Run r = new Run();
        r.putOnes(0, 95);
        r.due(2, r.about(3));
        r.due(-2, r.store(1, 9));
        r.due(96, r.store(1, 8));
        r.due(16, r.extent(5, 0));
    }

    static void terms1_room_putFitsTheOpenExtentWhenNoneIsEmpty() {
        Run r = new Run();
        States.withNoneEmpty(r, 1);
        r.due(-2, r.store(1, 9));
        r.due(126, r.store(1, 8));
        r.due(-2, r.put(1, 0));
    }

    static void terms1_room_putWithoutAnOpenExtentAndTwoEmpty() {
        Run r = new Run();
        r.putOnes(0, 94);
        r.flush();
        r.settle(200);
        r.crash();
        r.due(1, r.recover());
        r.due(2, r.about(3));
        r.due(15, r.extent(5, 0));
        r.due(-2, r.put(0, 0));
        r.due(-1, r.about(4));
    }

    static void terms1_room_putCountsAnEmptiedExtent() {
        Run r = new Run();
        States.withoutRoomForPut(r);
        r.due(0, r.reclaim(0));
        r.due(0, r.reclaim(1));
        r.due(3, r.about(3));
        r.putOnes(0, 15);
        r.due(16, r.extent(6, 0));
        r.due(112, r.put(0, 0));
        r.due(0, r.about(4));
        r.due(2, r.about(3));
    }

    static void terms1_room_flushOpensAnExtentJustEmptied() {
        Run r = new Run();
        States.withNoneEmpty(r, 1);
        r.flush();
        r.due(0, r.reclaim(3));
        r.due(1, r.about(3));
        r.delete(0);
        r.due(1, r.flush());
        r.due(3, r.about(4));
    }

    static void terms1_room_flushOpensWhenTwoAreEmpty() {
        Run r = new Run();
        States.withoutRoomForPut(r);
        r.due(1, r.flush());
        r.due(6, r.about(4));
        r.due(1, r.about(3));
    }

    static void terms1_room_flushOpensTheLastEmptyExtent() {
        Run r = new Run();
        States.withOneEmpty(r);
        r.due(1, r.flush());
        r.due(7, r.about(4));
        r.due(0, r.about(3));
    }

    static void terms1_room_flushFindsNoneWhenNoneIsEmpty() {
        Run r = new Run();
        States.withNoneEmpty(r, 0);
        r.due(-2, r.flush());
    }

    static void terms1_room_flushFitsTheOpenExtentWhenNoneIsEmpty() {
        Run r = new Run();
        States.withNoneEmpty(r, 1);
        r.due(1, r.flush());
        r.due(16, r.extent(7, 0));
    }

    static void terms1_room_flushOfOneBlockTooManyWhenNoneIsEmpty() {
        Run r = new Run();
        States.withNoneEmpty(r, 3);
        r.put(1, 0);
        r.put(2, 0);
        r.due(-2, r.flush());
        r.due(3, r.about(9));
        r.due(15, r.extent(7, 0));
    }

    static void terms1_room_reclaimOpensTheLastEmptyExtent() {
        Run r = new Run();
        States.withOneEmptyAndSixteenInExtent0(r);
        for (int key = 0; key < 4; key++) {
            r.delete(key);
        }
        r.due(12, r.reclaim(0));
        r.due(7, r.about(4));
        r.due(12 + 3, r.extent(7, 0));
        r.due(1, r.about(3));
    }

    static void terms1_room_reclaimFindsNoneForAnObject() {
        Run r = new Run();
        r.store(1, 20);
        r.putOnes(0, 94);
        r.settle(200);
        r.flush();
        r.putOnes(0, 15);
        r.settle(200);
        r.flush();
        r.putOnes(0, 14);
        r.due(0, r.about(3));
        r.due(15, r.extent(7, 0));
        r.due(-2, r.reclaim(0));
        r.due(15, r.extent(7, 0));
        r.due(16, r.extent(0, 0));
    }

    static void terms1_room_reclaimFindsNoneForTheTableBehindItsObjects() {
        Run r = new Run();
        States.withOneEmptyAndSixteenInExtent0(r);
        r.due(-2, r.reclaim(0));
        r.due(6, r.about(4));
        r.due(0, r.extent(7, 0));
        r.due(1, r.about(3));
    }

    static void terms1_room_reclaimThatMakesNoChunkNeedsNone() {
        Run r = new Run();
        States.withNoneEmpty(r, 1);
        r.due(1, r.flush());
        r.due(0, r.about(3));
        r.due(16, r.extent(7, 0));
        r.due(0, r.reclaim(3));
        r.due(1, r.about(3));
        r.due(0, r.extent(3, 0));
    }

    static void terms1_room_reclaimOfATableFindsNone() {
        Run r = new Run();
        States.withNoneEmpty(r, 1);
        r.flush();
        r.due(0, r.about(9));
        r.due(1, r.extent(6, 1));
        r.due(-2, r.reclaim(6));
    }

    // ---- a key's place ----

    static void terms1_place_changesAreAheadOfTables() {
        Run r = new Run();
        r.store(5, 1);
        r.flush();
        r.store(5, 2);
        r.due(2, r.get(5));
    }

    static void terms1_place_goneInChangesIsAheadOfTables() {
        Run r = new Run();
        r.store(5, 1);
        r.flush();
        r.delete(5);
        r.due(-1, r.get(5));
        r.due(-1, r.list(0));
        r.due(-1, r.delete(5));
    }

    static void terms1_place_newestTableThatHasAnEntry() {
        Run r = new Run();
        r.store(5, 1);
        r.flush();
        r.store(5, 2);
        r.flush();
        r.store(6, 3);
        r.flush();
        r.due(2, r.get(5));
        r.due(3, r.get(6));
        r.settle(200);
        r.crash();
        r.due(2, r.recover());
        r.due(2, r.get(5));
        r.due(3, r.get(6));
    }

    static void terms1_place_goneInTheNewestTable() {
        Run r = new Run();
        r.store(5, 1);
        r.flush();
        r.delete(5);
        r.flush();
        r.due(-1, r.get(5));
        r.settle(200);
        r.crash();
        r.due(0, r.recover());
        r.due(-1, r.get(5));
        r.due(2, r.about(8));
    }

    static void terms1_place_newerThanAGoneOne() {
        Run r = new Run();
        r.store(5, 1);
        r.flush();
        r.delete(5);
        r.flush();
        r.store(5, 3);
        r.flush();
        r.due(3, r.get(5));
        r.settle(200);
        r.crash();
        r.due(1, r.recover());
        r.due(3, r.get(5));
    }

    static void terms1_place_ofAnUnknownKeyIsNone() {
        Run r = new Run();
        r.put(5, 0);
        r.flush();
        r.due(-1, r.get(4));
        r.due(-1, r.get(6));
    }
}
