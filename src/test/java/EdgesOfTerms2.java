/** The sentences of part 2 of the terms that name an edge: writes, FLUSH, RECLAIM, handles. */
public final class EdgesOfTerms2 {
    private EdgesOfTerms2() {
    }

    public static void main(String[] args) throws Exception {
        Cases.run(EdgesOfTerms2.class);
    }

    // ---- numbers of writes ----

    static void terms2_numbers_areFrom0On() {
        Run r = new Run();
        r.store(1, 20);
        r.flush();
        for (int k = 0; k < 4; k++) {
            r.due(k, r.waiting(k, 0));
        }
    }

    static void terms2_numbers_goOnBehindACrash() {
        Run r = new Run();
        r.putOnes(1, 3);
        r.crash();
        r.recover();
        r.put(1, 0);
        r.due(3, r.waiting(0, 0));
        r.flush();
        r.due(5, r.waiting(2, 0));
    }

    static void terms2_numbers_stayWithTheirWritesWhenOthersAreIssued() {
        Run r = new Run();
        r.putOnes(1, 3);
        r.due(1, r.issue(1));
        r.due(0, r.waiting(0, 0));
        r.due(2, r.waiting(1, 0));
    }

    static void terms2_numbers_areNotUsedUpByARefusedPut() {
        Run r = new Run();
        States.crowded(r, 120);
        r.due(-3, r.put(1, 0));
        r.settle(1);
        r.put(1, 0);
        r.due(120, r.waiting(119, 0));
    }

    static void terms2_numbers_areNotUsedUpByARefusedFlush() {
        Run r = new Run();
        States.crowded(r, 119);
        r.due(-3, r.flush());
        r.settle(1);
        r.due(1, r.flush());
        r.due(119, r.waiting(118, 0));
        r.due(120, r.waiting(119, 0));
    }

    static void terms2_numbers_areNotUsedUpByARefusedReclaim() {
        Run r = new Run();
        States.crowded(r, 119);
        r.due(-3, r.reclaim(0));
        r.settle(1);
        r.due(0, r.reclaim(0));
        r.due(120, r.waiting(119, 0));
    }

    // ---- at most 120 wait ----

    static void terms2_most_the120thByPut() {
        Run r = new Run();
        States.crowded(r, 119);
        r.due(42, r.put(1, 0));
        r.due(120, r.about(1));
        r.due(-3, r.put(1, 0));
        r.due(120, r.about(1));
    }

    static void terms2_most_the119thAnd120thByPut() {
        Run r = new Run();
        States.crowded(r, 118);
        r.due(41, r.store(1, 9));
        r.due(120, r.about(1));
    }

    static void terms2_most_theSecondBlockIsTooMany() {
        Run r = new Run();
        States.crowded(r, 119);
        r.due(-3, r.store(1, 9));
        r.due(119, r.about(1));
    }

    static void terms2_most_the120thByFlush() {
        Run r = new Run();
        States.crowded(r, 118);
        r.due(1, r.flush());
        r.due(120, r.about(1));
    }

    static void terms2_most_theRecordOfAFlushIsTooMany() {
        Run r = new Run();
        States.crowded(r, 119);
        r.due(-3, r.flush());
        r.due(119, r.about(1));
    }

    static void terms2_most_the120thByReclaim() {
        Run r = new Run();
        States.crowded(r, 118);
        r.due(0, r.reclaim(0));
        r.due(120, r.about(1));
    }

    static void terms2_most_theRecordOfAReclaimIsTooMany() {
        Run r = new Run();
        States.crowded(r, 119);
        r.due(-3, r.reclaim(0));
        r.due(119, r.about(1));
    }

    static void terms2_most_theRecordOfAReclaimAlone() {
        Run r = new Run();
        States.crowded(r, 120);
        r.due(0, r.about(9));
        r.due(-3, r.reclaim(0));
        r.settle(1);
        r.due(0, r.reclaim(0));
        r.due(120, r.about(1));
    }

    static void terms2_most_aTableThatEndsWithItsThirdBlock() {
        Run r = new Run();
        r.putAndFlush(0, 34);
        r.put(0, 0);
        for (int key = 0; key < 13; key++) {
            r.put(key, 0);
        }
        r.due(116, r.about(1));
        r.due(1, r.flush());
        r.due(120, r.about(1));
    }

    static void terms2_most_aTableWithOneByteInItsThirdBlock() {
        Run r = new Run();
        r.putAndFlush(0, 35);
        r.putOnes(0, 4);
        for (int key = 0; key < 8; key++) {
            r.put(key, 0);
        }
        r.due(117, r.about(1));
        r.due(-3, r.flush());
        r.settle(1);
        r.due(1, r.flush());
        r.due(120, r.about(1));
    }

    /** An object of seven blocks in extent 0, and 109 writes and so many more that wait. */
    private static void crowdedAboutAnObject(Run r, int more) {
        r.storeSeven(1);
        r.putAndFlush(0, 34);
        r.putOnes(0, more);
        r.due(109 + more, r.about(1));
    }

    static void terms2_most_the120thByAReclaimThatMoves() {
        Run r = new Run();
        crowdedAboutAnObject(r, 2);
        r.due(1, r.reclaim(0));
        r.due(120, r.about(1));
    }

    static void terms2_most_oneTooManyByAReclaimThatMoves() {
        Run r = new Run();
        crowdedAboutAnObject(r, 3);
        r.due(-3, r.reclaim(0));
        r.due(112, r.about(1));
    }

    static void terms2_tooMany_putIsRefusedAsAWhole() {
        Twins.dueUnchangedButReads(r -> r.putAndFlush(0, 38), -3, r -> r.storeSeven(1));
    }

    static void terms2_tooMany_flushIsRefusedAsAWhole() {
        Twins.dueUnchanged(r -> States.crowded(r, 119), -3, r -> r.flush());
    }

    static void terms2_tooMany_reclaimIsRefusedAsAWhole() {
        Twins.dueUnchanged(r -> States.crowded(r, 119), -3, r -> r.reclaim(0));
        Twins.dueUnchanged(r -> States.crowded(r, 120), -3, r -> r.reclaim(0));
        Twins.dueUnchangedButReads(r -> crowdedAboutAnObject(r, 3), -3, r -> r.reclaim(0));
    }

    static void terms2_tooMany_isToldBehindNoRoomByPut() {
        Twins.dueUnchanged(States::crowdedWithoutRoomForPut, -2, r -> r.put(1, 0));
        Twins.dueUnchanged(States::crowdedWithoutAnyRoom, -2, r -> r.put(1, 0));
    }

    static void terms2_tooMany_isToldBehindNoRoomByFlush() {
        Twins.dueUnchanged(States::crowdedWithoutRoomForPut, -3, r -> r.flush());
        Twins.dueUnchanged(States::crowdedWithoutAnyRoom, -2, r -> r.flush());
    }

    static void terms2_tooMany_isToldBehindNoRoomByReclaim() {
        Twins.dueUnchanged(States::crowdedWithoutRoomForPut, -3, r -> r.reclaim(0));
        Twins.dueUnchanged(States::crowdedWithoutAnyRoom, -2, r -> r.reclaim(0));
    }

    // ---- what a chunk's writes wait for ----

    static void terms2_chunk_itsBlocksAreAWriteEachInOrder() {
        Run r = new Run();
        r.put(0, 0);
        r.storeSeven(1);
        r.due(8, r.about(1));
        r.dueTargets(0, 0, 1, 2, 3, 4, 5, 6, 7);
    }

    static void terms2_chunk_inAnExtentNeverEmptiedWaitsForNothing() {
        Run r = new Run();
        r.storeSeven(1);
        r.dueWaits(0, 0, 0, 0, 0, 0, 0, 0);
        r.due(7, r.about(2));
    }

    /**
     * Extent 0 is emptied, by a record that waits with number 18, and extent 1 full and open: the
     * next chunk, of number 33, is made in extent 0. Key 0 is at the end of extent 1.
     */
    private static void emptied0(Run r) {
        r.putOnes(0, 17);
        r.due(0, r.reclaim(0));
        r.putOnes(0, 14);
        r.due(33, r.about(1));
        r.due(16, r.extent(1, 0));
        r.due(0, r.extent(0, 0));
    }

    static void terms2_chunk_waitsForTheRecordThatEmptiedItsExtent() {
        Run r = new Run();
        emptied0(r);
        r.put(5, 0);
        r.store(6, 9);
        r.dueTargets(33, 0, 1, 2);
        r.dueWaits(32, 0, 1, 1, 1);
        r.due(18, r.settle(18));
        r.due(18, r.waiting(0, 0));
        r.due(129, r.waiting(0, 1));
        r.dueWaits(15, 1, 1, 1);
        r.due(18, r.issue(0));
        r.dueWaits(14, 0, 0, 0);
    }

    static void terms2_chunk_doesNotWaitForThatRecordOnTheDisk() {
        Run r = new Run();
        emptied0(r);
        r.settle(200);
        r.put(5, 0);
        r.due(0, r.waiting(0, 1));
        r.due(0, r.waiting(0, 2));
    }

    static void terms2_chunk_ofAnotherExtentDoesNotWaitForThatRecord() {
        Run r = new Run();
        r.putOnes(0, 17);
        r.reclaim(0);
        r.put(0, 0);
        r.due(16 + 2, r.waiting(19, 1));
        r.due(0, r.waiting(19, 2));
    }

    static void terms2_chunk_inAnExtentEmptiedTwiceWaitsForTheLaterRecord() {
        Run r = new Run();
        emptied0(r);
        r.putOnes(0, 17);
        r.due(2, r.about(4));
        r.due(0, r.reclaim(0));
        r.due(51, r.waiting(51, 0));
        r.due(1 + 1 + 16 + 16, r.waiting(51, 2));
        r.putOnes(0, 15);
        r.due(0, r.waiting(66, 1));
        r.due(1, r.waiting(66, 2));
        r.due(19, r.settle(19));
        r.due(1, r.record(1, 0));
        r.due(66, r.waiting(47, 0));
        r.due(1, r.waiting(47, 2));
    }

    static void terms2_chunk_recordThatEmptiedItsExtentIsLostInACrash() {
        Run r = new Run();
        r.putOnes(0, 17);
        r.flush();
        r.settle(200);
        r.due(0, r.reclaim(0));
        r.due(0, r.extent(0, 0));
        r.due(1, r.crash());
        r.due(1, r.recover());
        r.due(16, r.extent(0, 0));
        r.due(0, r.reclaim(0));
        r.due(2, r.about(6));
        r.due(128, r.waiting(0, 1));
        r.due(0, r.waiting(0, 2));
    }

    static void terms2_chunk_recordThatEmptiedItsExtentIsTheFirstThatWaits() {
        Run r = new Run();
        emptied0(r);
        r.due(18, r.settle(18));
        r.due(129, r.waiting(0, 1));
        r.put(5, 0);
        r.due(1, r.waiting(15, 2));
    }

    static void terms2_chunk_behindACrashWaitsForNothingLost() {
        Run r = new Run();
        States.crowded(r, 120);
        r.crash();
        r.recover();
        r.putOnes(0, 96);
        r.due(96, r.about(1));
        r.due(96, r.about(2));
        r.dueWaits(0, 0, 0, 0, 0);
        r.flush();
        r.dueWaits(96, 1, 1);
    }

    static void terms2_ready_aRecordStaysSoWhenALaterOneTakesItsSlot() {
        Run r = new Run();
        emptied0(r);
        r.putOnes(5, 2);
        r.flush();
        r.put(6, 0);
        r.flush();
        r.due(33, r.settle(33));
        for (int number = 34; number <= 39; number++) {
            r.due(number, r.issue(1));
        }
        r.due(3, r.record(1, 0));
        r.due(1, r.about(1));
        r.due(0, r.waiting(0, 2));
        r.put(7, 0);
        r.due(5, r.waiting(1, 1));
        r.due(0, r.waiting(1, 2));
        r.due(2, r.about(2));
        r.due(33, r.issue(0));
    }

    // ---- what a table's writes wait for ----

    static void terms2_table_waitsForWhatWaitsStill() {
        Run r = new Run();
        r.store(1, 20);
        r.issue(1);
        r.flush();
        r.due(1, r.waiting(1, 2));
        r.issue(0);
        r.due(0, r.waiting(0, 2));
    }

    static void terms2_table_ofWhatIsOnTheDiskWaitsForNothing() {
        Run r = new Run();
        r.store(1, 20);
        r.settle(200);
        r.flush();
        r.dueWaits(0, 0, 1);
    }

    static void terms2_table_ofGoneWaitsForNothing() {
        Run r = new Run();
        r.put(1, 0);
        r.delete(1);
        r.flush();
        r.dueWaits(0, 0, 0, 1);
        r.due(2, r.about(2));
    }

    static void terms2_table_doesNotWaitForAnObjectThatWasPutOver() {
        Run r = new Run();
        r.storeSeven(1);
        r.put(1, 0);
        r.flush();
        r.due(1, r.waiting(8, 2));
    }

    static void terms2_table_ofChangesDoesNotWaitForOtherKeys() {
        Run r = new Run();
        r.put(1, 0);
        r.flush();
        r.put(2, 0);
        r.flush();
        r.dueWaits(3, 0, 1, 2);
    }

    static void terms2_table_mergedWaitsForAllKeys() {
        Run r = new Run();
        for (int key = 1; key <= 4; key++) {
            r.put(key, 0);
            r.flush();
        }
        r.due(1, r.about(8));
        r.dueWaits(9, 0, 4, 4, 3);
    }

    static void terms2_table_eachOfItsBlocksWaits() {
        Run r = new Run();
        r.put(1, 0);
        r.put(2, 0);
        r.store(3, 9);
        r.flush();
        r.dueWaits(4, 4, 4, 2);
    }

    static void terms2_table_waitsForTheLastOfManyWrites() {
        Run r = new Run();
        r.putOnes(0, 90);
        r.store(1, 20);
        r.flush();
        r.due(94, r.about(1));
        r.dueWaits(92, 3, 1);
        r.settle(91);
        r.dueWaits(0, 0, 1, 1);
        r.settle(1);
        r.dueWaits(0, 0, 1);
    }

    static void terms2_table_inAnEmptiedExtentWaitsForTheRecordToo() {
        Run r = new Run();
        emptied0(r);
        r.flush();
        r.due(0, r.waiting(33, 1));
        r.due(2, r.waiting(33, 2));
    }

    static void terms2_table_waitsAlsoForOlderWritesOfTheBlocksItNames() {
        Run r = new Run();
        emptied0(r);
        r.put(5, 0);
        r.flush();
        r.due(34, r.waiting(34, 0));
        r.due(1, r.waiting(34, 1));
        r.due(4, r.waiting(34, 2));
        r.due(0, r.issue(0));
        r.due(3, r.waiting(33, 2));
        r.due(1, r.issue(0));
        r.due(3, r.waiting(32, 2));
    }

    // ---- records ----

    static void terms2_record_goesIntoTheSlotOfItsNumberModulo2() {
        Run r = new Run();
        r.putAndFlush(1, 4);
        r.due(129, r.waiting(2, 1));
        r.due(128, r.waiting(5, 1));
        r.due(129, r.waiting(8, 1));
        r.due(128, r.waiting(11, 1));
        r.settle(3);
        r.due(1, r.record(1, 0));
        r.due(0, r.record(0, 0));
        r.settle(3);
        r.due(2, r.record(0, 0));
        r.settle(3);
        r.due(3, r.record(1, 0));
        r.due(2, r.record(0, 0));
        r.settle(3);
        r.due(4, r.record(0, 0));
        r.due(3, r.record(1, 0));
    }

    static void terms2_record_waitsForTheRecordAheadAndItsTable() {
        Run r = new Run();
        r.putAndFlush(1, 2);
        r.due(1, r.waiting(2, 2));
        r.due(2, r.waiting(5, 2));
        r.settle(3);
        r.dueWaits(0, 0, 1, 1);
    }

    static void terms2_record_waitsForTheRecordAheadThoughAllElseIsOnTheDisk() {
        Run r = new Run();
        r.putAndFlush(1, 1);
        r.settle(2);
        r.putAndFlush(1, 1);
        r.dueWaits(0, 0, 0, 1, 2);
    }

    static void terms2_record_waitsForTheRecordAheadWhen120Wait() {
        Run r = new Run();
        States.crowded(r, 120);
        r.dueWaits(117, 0, 1, 2);
    }

    static void terms2_record_doesNotWaitForARecordOnTheDisk() {
        Run r = new Run();
        r.putAndFlush(1, 1);
        r.settle(200);
        r.putAndFlush(1, 1);
        r.due(1, r.waiting(2, 2));
    }

    static void terms2_record_waitsForAllBlocksOfItsTable() {
        Run r = new Run();
        r.put(1, 0);
        r.put(2, 0);
        r.put(3, 0);
        r.settle(200);
        r.flush();
        r.due(3, r.about(1));
        r.due(2, r.waiting(2, 2));
        r.issue(1);
        r.due(1, r.waiting(1, 2));
    }

    static void terms2_record_behindACrashWaitsForNoLostOne() {
        Run r = new Run();
        r.putAndFlush(1, 1);
        r.due(2, r.settle(2));
        r.due(1, r.crash());
        r.recover();
        r.putAndFlush(1, 1);
        r.due(1, r.about(6));
        r.dueWaits(0, 0, 1, 1);
    }

    static void terms2_record_isMadeOfHowAllIsThen() {
        Run r = new Run();
        r.putOnes(1, 17);
        r.flush();
        r.put(2, 0);
        r.settle(200);
        r.dueRecord(1, 1, 17, 18, 1, 16, 2, 0, 0, 0, 0, 0, 0, 1, 1, -1);
    }

    // ---- mutations ----

    static void terms2_handle_isFrom1On() {
        Run r = new Run();
        r.due(1, r.put(1, 0));
        r.due(2, r.delete(1));
        r.due(3, r.put(1, 0));
    }

    static void terms2_handle_isNotUsedUpByARefusedCall() {
        Run r = new Run();
        States.withoutRoomForPut(r);
        r.due(-2, r.put(1, 0));
        r.due(-1, r.put(48, 0));
        r.due(-1, r.delete(1));
        r.due(97, r.delete(0));
    }

    static void terms2_handle_goesOnBehindACrash() {
        Run r = new Run();
        r.putOnes(1, 2);
        r.crash();
        r.recover();
        r.due(3, r.put(1, 0));
    }

    static void terms2_delete_makesNoWriteAndIsNotRefusedWhen120Wait() {
        Run r = new Run();
        States.crowded(r, 120);
        r.due(41, r.delete(0));
        r.due(120, r.about(1));
        r.due(1, r.about(9));
    }

    static void terms2_delete_needsNoRoom() {
        Run r = new Run();
        States.withNoneEmpty(r, 0);
        r.due(127, r.delete(0));
        r.due(0, r.about(1));
    }

    // ---- FLUSH ----

    static void terms2_flush_withoutChangesMakesNothing() {
        Twins.dueUnchanged(r -> r.about(0), 0, r -> r.flush());
        Twins.dueUnchanged(r -> r.putAndFlush(1, 1), 0, r -> r.flush());
    }

    static void terms2_flush_withoutChangesIsNotRefusedWhen120Wait() {
        Twins.dueUnchanged(r -> States.crowded(r, 120), 0, r -> r.flush());
    }

    static void terms2_flush_withoutChangesNeedsNoRoom() {
        Run r = new Run();
        States.withNoneEmpty(r, 1);
        r.due(1, r.flush());
        r.due(16, r.extent(7, 0));
        r.due(0, r.about(3));
        r.due(0, r.flush());
    }

    static void terms2_flush_withoutChangesBehindARecover() {
        Run r = new Run();
        r.put(1, 0);
        r.crash();
        r.recover();
        r.due(0, r.flush());
    }

    static void terms2_flush_ofAKeyPutAndDeleted() {
        Run r = new Run();
        r.put(1, 0);
        r.delete(1);
        r.due(1, r.about(9));
        r.due(1, r.flush());
        r.settle(200);
        r.dueWholeBlock(0, 1, 165, 2, 0, 4, 0, 1, 1, 1, 255, 0, 0, 1);
    }

    static void terms2_flush_withTwoTablesMakesAThirdOfTheChanges() {
        Run r = new Run();
        r.putAndFlush(1, 1);
        r.putAndFlush(2, 1);
        r.put(3, 0);
        r.flush();
        r.due(3, r.about(8));
        r.settle(200);
        r.dueWholeBlock(0, 5, 165, 2, 0, 4, 0, 5, 1, 3, 0, 4, 0, 5);
    }

    static void terms2_flush_withThreeTablesMakesOneOfAllKeys() {
        Run r = new Run();
        r.putAndFlush(1, 1);
        r.putAndFlush(2, 1);
        r.putAndFlush(3, 1);
        r.delete(2);
        r.flush();
        r.due(1, r.about(8));
        r.settle(200);
        r.dueWholeBlock(0, 6, 165, 2, 0, 7, 0, 6, 2, 1, 0, 0, 3, 0, 4, 0, 6);
        r.putAndFlush(4, 1);
        r.due(2, r.about(8));
    }

    static void terms2_flush_behindAMergedOneIsOfTheChangesAlone() {
        Run r = new Run();
        for (int key = 1; key <= 4; key++) {
            r.putAndFlush(key, 1);
        }
        r.settle(200);
        r.due(1, r.about(8));
        r.due(9, r.extent(0, 0));
        r.putAndFlush(9, 1);
        r.due(2, r.about(8));
        r.settle(200);
        r.dueWholeBlock(0, 10, 165, 2, 0, 4, 0, 9, 1, 9, 0, 9, 0, 9);
    }

    static void terms2_flush_threeTablesOfARecoveredRecordMergeToo() {
        Run r = new Run();
        r.putAndFlush(1, 1);
        r.putAndFlush(2, 1);
        r.putAndFlush(3, 1);
        r.settle(200);
        r.crash();
        r.due(3, r.recover());
        r.put(4, 0);
        r.flush();
        r.due(1, r.about(8));
        r.settle(200);
        r.dueBlock(1, 1, 165, 2, 0, 13, 0, 7, 4, 1, 0, 0, 2, 0, 2, 3, 0, 4);
        r.dueWholeBlock(1, 2, 4, 1, 0, 0, 7);
    }

    static void terms2_flush_uptoCountsLostMutationsToo() {
        Run r = new Run();
        r.putOnes(1, 3);
        r.crash();
        r.recover();
        r.put(1, 0);
        r.flush();
        r.settle(200);
        r.due(4, r.record(1, 1));
        r.due(4, r.about(7));
    }

    static void terms2_flush_leavesNoChanges() {
        Run r = new Run();
        r.put(1, 0);
        r.put(2, 0);
        r.due(2, r.about(9));
        r.flush();
        r.due(0, r.about(9));
        r.due(1, r.list(0));
        r.due(2, r.list(1));
    }

    // ---- RECLAIM ----

    static void terms2_reclaim_ofTheOpenExtentIsNone() {
        Twins.dueUnchanged(r -> r.storeSeven(1), -1, r -> r.reclaim(0));
        Twins.dueUnchanged(r -> r.putOnes(1, 16), -1, r -> r.reclaim(0));
    }

    static void terms2_reclaim_ofAnEmptyExtentIsNone() {
        Twins.dueUnchanged(r -> r.storeSeven(1), -1, r -> r.reclaim(1));
        Twins.dueUnchanged(r -> r.about(0), -1, r -> r.reclaim(7));
        Twins.dueUnchanged(r -> {
            r.putOnes(0, 17);
            r.reclaim(0);
        }, -1, r -> r.reclaim(0));
    }

    static void terms2_reclaim_ofTheExtentThatWasOpenAheadOfACrash() {
        Run r = new Run();
        r.store(1, 30);
        r.flush();
        r.settle(200);
        r.due(-1, r.reclaim(0));
        r.crash();
        r.recover();
        r.due(1, r.reclaim(0));
        r.due(1, r.about(4));
    }

    static void terms2_reclaim_movesSixteenObjectsByTheirBlocks() {
        Run r = new Run();
        for (int key = 15; key >= 0; key--) {
            r.put(key, 0);
        }
        r.put(20, 0);
        r.settle(200);
        r.due(16, r.extent(0, 1));
        r.due(16, r.reclaim(0));
        r.due(16 + 4 + 1, r.about(1));
        r.dueTargets(0, 17, 18, 19, 20, 21, 22, 23, 24, 25, 26, 27, 28, 29, 30, 31, 32, 33, 34, 35, 36,
                129);
        r.dueWaits(15, 0, 16, 16, 16, 16, 4);
        r.settle(200);
        r.dueWholeBlock(1, 1, 165, 1, 15, 0, 0, 17, 0, 17);
        r.dueWholeBlock(1, 15, 165, 1, 1, 0, 0, 31, 0, 31);
        r.dueWholeBlock(2, 0, 165, 1, 0, 0, 0, 32, 0, 32);
        r.dueBlock(2, 1, 165, 2, 0, 52, 0, 33, 17, 0, 2, 0, 1, 1, 15);
    }

    static void terms2_reclaim_keepsKeyAndBytesUnderAnotherStamp() {
        Run r = new Run();
        r.putOnes(0, 8);
        r.store(30, 35);
        r.putOnes(0, 6);
        r.due(1, r.about(4));
        r.due(1, r.reclaim(0));
        r.due(15, r.about(0));
        r.settle(200);
        r.dueBlock(0, 8, 165, 1, 30, 35, 0, 8, 1, 2, 3, 4, 5, 6, 7, 8, 9, 10);
        r.dueBlock(1, 1, 165, 1, 30, 35, 0, 15, 1, 2, 3, 4, 5, 6, 7, 8, 9, 10);
        r.dueWholeBlock(1, 3, 27, 28, 29, 30, 31, 32, 33, 34, 35, 0, 15);
        r.due(35, r.get(30));
        r.due(35, r.octet(34));
    }

    static void terms2_reclaim_leavesWhatIsPutOverOrDeleted() {
        Run r = new Run();
        r.storeSeven(1);
        r.storeSeven(2);
        r.storeSeven(1);
        r.delete(2);
        r.due(0, r.extent(0, 1));
        r.due(0, r.reclaim(0));
    }

    static void terms2_reclaim_makesATableOfChangesElsewhere() {
        Run r = new Run();
        r.putOnes(1, 17);
        r.due(1, r.about(9));
        r.due(0, r.reclaim(0));
        r.due(1, r.about(8));
        r.due(0, r.about(9));
        r.due(18, r.about(10));
    }

    static void terms2_reclaim_ofChangesThatAreAllGone() {
        Run r = new Run();
        r.putOnes(1, 17);
        r.delete(1);
        r.due(0, r.reclaim(0));
        r.settle(200);
        r.dueWholeBlock(1, 1, 165, 2, 0, 1, 0, 17, 0, 0, 17);
        r.due(18, r.about(7));
    }

    static void terms2_reclaim_withoutChangesAndWithoutATableThereMakesARecordAlone() {
        Run r = new Run();
        r.putOnes(1, 17);
        r.flush();
        r.put(2, 0);
        r.flush();
        r.settle(200);
        r.due(0, r.reclaim(0));
        r.due(1, r.about(1));
        r.due(20, r.about(10));
        r.due(2, r.about(8));
        r.dueWaits(0, 0);
        r.settle(200);
        r.dueRecord(1, 3, 18, 20, 2, 0, 4, 0, 0, 0, 0, 0, 0, 1, 3, 1, 1, -1, -1);
    }

    static void terms2_reclaim_itsRecordAloneWaitsForNoWriteOfAnotherExtent() {
        Run r = new Run();
        r.putOnes(1, 18);
        r.flush();
        r.settle(16);
        for (int number = 17; number <= 19; number++) {
            r.due(number, r.issue(1));
        }
        r.due(16, r.waiting(0, 0));
        r.due(0, r.reclaim(0));
        r.due(2, r.about(1));
        r.dueWaits(0, 0, 0);
    }

    static void terms2_reclaim_ofOneObjectWithoutOtherChanges() {
        Run r = new Run();
        r.putOnes(1, 16);
        r.putAndFlush(2, 1);
        r.settle(200);
        r.due(0, r.about(9));
        r.due(1, r.extent(0, 1));
        r.due(1, r.reclaim(0));
        r.due(1, r.about(8));
        r.due(0, r.about(9));
        r.dueTargets(0, 16 + 2, 16 + 3, 128, -1);
        r.settle(200);
        r.dueWholeBlock(1, 3, 165, 2, 0, 7, 0, 19, 2, 1, 1, 2, 2, 1, 0, 0, 19);
    }

    static void terms2_reclaim_ofTheNewestTableAlone() {
        Run r = new Run();
        r.put(1, 0);
        r.delete(1);
        r.flush();
        r.settle(200);
        r.crash();
        r.due(0, r.recover());
        r.due(1, r.extent(0, 1));
        r.due(0, r.reclaim(0));
        r.due(2, r.about(1));
        r.due(1, r.about(8));
        r.settle(200);
        r.dueWholeBlock(1, 0, 165, 2, 0, 1, 0, 2, 0, 0, 2);
    }

    static void terms2_reclaim_ofATableThereMakesAMergedOne() {
        Run r = new Run();
        r.putOnes(1, 14);
        r.flush();
        r.putOnes(1, 2);
        r.flush();
        r.settle(200);
        r.due(1, r.extent(0, 1));
        r.due(2, r.about(8));
        r.due(0, r.about(9));
        r.due(0, r.reclaim(0));
        r.due(1, r.about(8));
        r.due(2, r.about(1));
        r.settle(200);
        r.dueWholeBlock(1, 2, 165, 2, 0, 4, 0, 18, 1, 1, 1, 0, 0, 18);
    }

    static void terms2_reclaim_ofATableThatTheLatestRecordNamesNoMore() {
        Run r = new Run();
        r.putAndFlush(1, 10);
        r.settle(200);
        r.due(1, r.about(8));
        r.due(0, r.extent(0, 1));
        r.due(0, r.reclaim(0));
        r.due(1, r.about(1));
        r.due(20, r.about(10));
    }

    static void terms2_reclaim_ofTheOldestOfThreeTables() {
        Run r = new Run();
        r.putOnes(1, 15);
        r.flush();
        r.putAndFlush(1, 2);
        r.settle(200);
        r.due(3, r.about(8));
        r.due(1, r.extent(0, 1));
        r.due(0, r.reclaim(0));
        r.due(1, r.about(8));
    }

    static void terms2_reclaim_pointerIs0InMemoryAndInTheRecord() {
        Run r = new Run();
        r.putOnes(1, 33);
        r.due(0, r.reclaim(1));
        r.due(0, r.extent(1, 0));
        r.due(6, r.about(3));
        r.settle(200);
        r.dueRecord(1, 1, 33, 34, 1, 16, 0, 2, 0, 0, 0, 0, 0);
    }

    static void terms2_reclaim_itsRecordWaitsForAllWritesOfTheExtent() {
        Run r = new Run();
        r.storeSeven(1);
        r.storeSeven(1);
        r.storeSeven(1);
        r.settle(3);
        r.due(0, r.reclaim(0));
        r.due(11 + 1, r.waiting(19, 2));
    }

    static void terms2_reclaim_itsRecordWaitsForNoneOfOtherExtents() {
        Run r = new Run();
        r.putOnes(1, 33);
        r.flush();
        r.due(0, r.reclaim(0));
        r.due(16 + 1, r.waiting(35, 2));
    }

    static void terms2_reclaim_theExtentIsNotTakenForItsOwnChunks() {
        Run r = new Run();
        r.storeSeven(1);
        r.storeSeven(2);
        r.putOnes(3, 16);
        r.put(3, 0);
        r.due(1, r.about(4));
        r.due(15, r.extent(1, 0));
        r.due(2, r.reclaim(0));
        r.due(2, r.about(4));
        r.due(16, r.extent(2, 0));
        r.due(0, r.extent(0, 0));
    }

    static void terms2_reclaim_noRoomDoesNothing() {
        Twins.dueUnchangedButReads(States::withOneEmptyAndSixteenInExtent0, -2, r -> r.reclaim(0));
        Twins.dueUnchangedButReads(r -> States.withNoneEmpty(r, 0), -2, r -> r.reclaim(0));
    }

    static void terms2_reclaim_theExtentIsEmptyAtOnce() {
        Run r = new Run();
        emptied0(r);
        r.due(7, r.about(3));
        r.put(2, 0);
        r.due(0, r.about(4));
        r.due(6, r.about(3));
    }

    static void terms2_reclaim_itsRecordTellsMutations() {
        Run r = new Run();
        r.putOnes(1, 17);
        r.reclaim(0);
        r.due(0, r.poll(17));
        r.settle(200);
        r.due(1, r.poll(17));
    }

    // ---- PERSISTENT ----

    static void terms2_persistent_uptoIsNotBelowTheHandle() {
        Run r = new Run();
        r.putOnes(1, 3);
        r.flush();
        r.put(1, 0);
        r.settle(200);
        r.due(3, r.about(7));
        r.due(1, r.poll(3));
        r.due(0, r.poll(4));
    }

    static void terms2_persistent_whenTheRecordIsOnTheDisk() {
        Run r = new Run();
        r.putAndFlush(1, 1);
        r.due(2, r.settle(2));
        r.due(0, r.poll(1));
        r.due(1, r.settle(1));
        r.due(1, r.poll(1));
    }

    static void terms2_persistent_latestIsTheGreaterNumberOfBothSlots() {
        Run r = new Run();
        r.putAndFlush(1, 3);
        int[] upto = {1, 2, 3};
        for (int n = 0; n < 3; n++) {
            r.settle(3);
            r.due(upto[n], r.about(7));
            r.due(1, r.poll(n + 1));
            r.due(n == 2 ? -1 : 0, r.poll(n + 2));
        }
    }

    static void terms2_persistent_notWhenLostThoughUptoPassesIt() {
        Run r = new Run();
        r.putOnes(1, 2);
        r.crash();
        r.recover();
        r.putAndFlush(1, 1);
        r.settle(200);
        r.due(3, r.about(7));
        r.due(2, r.poll(1));
        r.due(2, r.poll(2));
        r.due(1, r.poll(3));
    }
}
