/** The sentences of part 3 of the terms that name an edge: ISSUE, CRASH, RECOVER, READS. */
public final class EdgesOfTerms3 {
    private static final int READ = 5;

    private EdgesOfTerms3() {
    }

    public static void main(String[] args) throws Exception {
        Cases.run(EdgesOfTerms3.class);
    }

    // ---- ISSUE ----

    static void terms3_issue_bringsOneBlockAlone() {
        Run r = new Run();
        r.store(1, 20);
        r.issue(1);
        r.dueWholeBlock(0, 0);
        r.dueWholeBlock(0, 1, 11, 12, 13, 14, 15, 16, 17, 18, 19, 20, 0, 0);
        r.due(1, r.about(1));
    }

    static void terms3_issue_bringsARecordIntoItsSlotAlone() {
        Run r = new Run();
        r.putAndFlush(1, 1);
        r.settle(2);
        r.due(-1, r.record(1, 0));
        r.issue(0);
        r.due(1, r.record(1, 0));
        r.due(0, r.record(0, 0));
    }

    static void terms3_issue_ofOlderAndNewerWritesOfOneBlock() {
        Run r = new Run();
        r.putOnes(0, 17);
        r.reclaim(0);
        r.putOnes(0, 14);
        r.put(5, 0);
        r.due(16 + 1, r.settle(17));
        r.dueBlock(0, 0, 165, 1, 0, 0);
        r.settle(200);
        r.dueBlock(0, 0, 165, 1, 5, 0);
    }

    // ---- CRASH ----

    static void terms3_crash_ofANewObject() {
        Run r = new Run();
        r.due(0, r.crash());
        r.due(0, r.recover());
        r.dueAbout(0, 0, 0, 8, -1, 0, 0, 0, 0, 0, 0, 0);
    }

    static void terms3_crash_allInMemoryGoes() {
        Run r = new Run();
        r.store(1, 20);
        r.flush();
        r.put(2, 0);
        r.due(5, r.crash());
        r.due(0, r.recover());
        r.dueAbout(2, 0, 0, 8, -1, 0, 0, 0, 0, 0, 0, 0);
        r.due(0, r.extent(0, 0));
        r.due(-1, r.get(1));
        r.due(-1, r.waiting(0, 0));
    }

    static void terms3_crash_whatIsOnTheDiskStays() {
        Run r = new Run();
        r.store(1, 20);
        r.settle(1);
        r.crash();
        r.dueBlock(0, 0, 165, 1, 1, 20);
        r.recover();
        r.dueBlock(0, 0, 165, 1, 1, 20);
        r.due(0, r.extent(0, 0));
    }

    static void terms3_crash_mutationsAboveUptoAreLost() {
        Run r = new Run();
        r.putOnes(1, 3);
        r.flush();
        r.settle(200);
        r.put(1, 0);
        r.delete(1);
        r.crash();
        r.due(1, r.poll(1));
        r.due(1, r.poll(3));
        r.due(2, r.poll(4));
        r.due(2, r.poll(5));
        r.due(-1, r.poll(6));
    }

    static void terms3_crash_allAreLostWhenOnlyTheRecordWaits() {
        Run r = new Run();
        r.putAndFlush(1, 1);
        r.settle(2);
        r.due(1, r.crash());
        r.due(2, r.poll(1));
    }

    static void terms3_crash_noneIsLostWhenTheRecordTellsAll() {
        Run r = new Run();
        r.putAndFlush(1, 1);
        r.settle(3);
        r.due(0, r.crash());
        r.due(1, r.poll(1));
    }

    static void terms3_crash_lostStaySoBehindMoreCrashes() {
        Run r = new Run();
        r.put(1, 0);
        r.crash();
        r.recover();
        r.putAndFlush(1, 1);
        r.settle(200);
        r.crash();
        r.due(2, r.poll(1));
        r.due(1, r.poll(2));
        r.recover();
        r.put(1, 0);
        r.crash();
        r.recover();
        r.due(2, r.poll(1));
        r.due(1, r.poll(2));
        r.due(2, r.poll(3));
    }

    static void terms3_crash_handleOfALaterRecordThatIsLost() {
        Run r = new Run();
        r.putAndFlush(1, 2);
        r.settle(3);
        r.crash();
        r.recover();
        r.due(1, r.poll(1));
        r.due(2, r.poll(2));
        r.due(1, r.about(6));
    }

    // ---- OFF ----

    /** OFF, with an object on the disk and in the output, and twenty bytes on the tape. */
    private static void turnedOff(Run r) {
        r.store(1, 20);
        r.flush();
        r.settle(200);
        r.get(1);
        r.put(2, 0);
        r.feed(1, 2, 3, 4, 5);
        r.due(1, r.crash());
    }

    static void terms3_off_callsThatAreRefused() {
        Twins.dueUnchanged(EdgesOfTerms3::turnedOff, -1, r -> r.put(1, 20));
        Twins.dueUnchanged(EdgesOfTerms3::turnedOff, -1, r -> r.delete(1));
        Twins.dueUnchanged(EdgesOfTerms3::turnedOff, -1, r -> r.get(1));
        Twins.dueUnchanged(EdgesOfTerms3::turnedOff, -1, r -> r.list(0));
        Twins.dueUnchanged(EdgesOfTerms3::turnedOff, -1, r -> r.flush());
        Twins.dueUnchanged(EdgesOfTerms3::turnedOff, -1, r -> r.reclaim(0));
        Twins.dueUnchanged(EdgesOfTerms3::turnedOff, -1, r -> r.crash());
        Twins.dueUnchanged(EdgesOfTerms3::turnedOff, -1, r -> r.extent(0, 0));
        Twins.dueUnchanged(EdgesOfTerms3::turnedOff, -1, r -> r.extent(0, 1));
        Twins.dueUnchanged(EdgesOfTerms3::turnedOff, -1, r -> r.issue(0));
        Twins.dueUnchanged(EdgesOfTerms3::turnedOff, -1, r -> r.waiting(0, 0));
    }

    static void terms3_off_whatIsToldStill() {
        Run r = new Run();
        turnedOff(r);
        r.due(40, r.feed(0, 0, 0, 0, 0));
        r.due(20, r.octet(19));
        r.due(-1, r.octet(20));
        r.due(1, r.poll(1));
        r.due(2, r.poll(2));
        r.due(0, r.settle(200));
        r.due(165, r.disk(0, 0, 0));
        r.due(1, r.record(1, 0));
        r.dueAbout(2, 0, 0, 0, -1, 2, 0, 1, 0, 0, 0, 1);
    }

    // ---- RECOVER ----

    static void terms3_recover_takesTheGreaterNumberInSlot1() {
        Run r = new Run();
        r.putAndFlush(1, 1);
        r.settle(200);
        r.crash();
        r.due(1, r.recover());
        r.due(1, r.about(6));
    }

    static void terms3_recover_takesTheGreaterNumberInSlot0() {
        Run r = new Run();
        r.putAndFlush(1, 1);
        r.putAndFlush(2, 1);
        r.settle(200);
        r.crash();
        r.due(2, r.recover());
        r.due(2, r.about(6));
    }

    static void terms3_recover_takesRecord0() {
        Run r = new Run();
        r.putAndFlush(1, 1);
        r.settle(2);
        r.crash();
        r.due(0, r.recover());
        r.due(0, r.about(6));
        r.due(8, r.about(3));
    }

    static void terms3_recover_stampsAreAsTheRecordTells() {
        Run r = new Run();
        r.putOnes(1, 3);
        r.flush();
        r.put(2, 0);
        r.settle(200);
        r.due(5, r.about(10));
        r.crash();
        r.recover();
        r.due(4, r.about(10));
        r.put(3, 0);
        r.settle(200);
        r.dueWholeBlock(1, 0, 165, 1, 3, 0, 0, 4, 0, 4);
    }

    static void terms3_recover_pointersAreAsTheRecordTells() {
        Run r = new Run();
        r.putOnes(1, 14);
        r.flush();
        r.putOnes(2, 2);
        r.settle(200);
        r.due(16, r.extent(0, 0));
        r.due(1, r.extent(1, 0));
        r.crash();
        r.recover();
        r.due(15, r.extent(0, 0));
        r.due(0, r.extent(1, 0));
        r.due(7, r.about(3));
    }

    static void terms3_recover_noExtentIsOpen() {
        Run r = new Run();
        r.putAndFlush(1, 1);
        r.settle(200);
        r.crash();
        r.recover();
        r.due(-1, r.about(4));
        r.put(2, 0);
        r.due(1, r.about(4));
        r.due(2, r.extent(0, 0));
        r.due(16, r.waiting(0, 1));
    }

    static void terms3_recover_anEmptiedExtentIsEmptyWhenTheRecordTellsIt() {
        Run r = new Run();
        r.putOnes(1, 17);
        r.reclaim(0);
        r.settle(200);
        r.crash();
        r.due(1, r.recover());
        r.due(0, r.extent(0, 0));
        r.put(2, 0);
        r.due(0, r.about(4));
        r.due(0, r.waiting(0, 2));
    }

    static void terms3_recover_thereAreNoChanges() {
        Run r = new Run();
        r.putAndFlush(1, 1);
        r.settle(200);
        r.delete(1);
        r.put(2, 0);
        r.due(2, r.about(9));
        r.crash();
        r.due(1, r.recover());
        r.due(0, r.about(9));
        r.due(1, r.list(0));
        r.due(-1, r.list(1));
    }

    static void terms3_recover_aTableThatWasLostIsNotThere() {
        Run r = new Run();
        r.putAndFlush(3, 1);
        r.settle(200);
        r.put(1, 0);
        r.put(2, 0);
        r.flush();
        r.due(3, r.list(2));
        r.crash();
        r.due(1, r.recover());
        r.due(1, r.about(8));
        r.due(3, r.list(0));
        r.due(-1, r.list(1));
    }

    static void terms3_recover_keysThatAreGoneBehindOthersInATable() {
        Run r = new Run();
        for (int key = 1; key <= 5; key++) {
            r.put(key, 0);
        }
        r.flush();
        r.put(2, 0);
        r.delete(3);
        r.delete(5);
        r.flush();
        r.settle(200);
        r.crash();
        r.due(3, r.recover());
        r.due(1, r.list(0));
        r.due(2, r.list(1));
        r.due(4, r.list(2));
        r.due(-1, r.get(3));
        r.due(-1, r.get(5));
    }

    // ---- the cache ----

    /** Keys from 0 on have an object of one block each, and all is on the disk. */
    private static Run withOnes(int keys) {
        Run r = new Run();
        for (int key = 0; key < keys; key++) {
            r.put(key, 0);
        }
        r.settle(200);
        return r;
    }

    private static void getAll(Run r, int first, int last) {
        for (int key = first; key <= last; key++) {
            r.get(key);
        }
    }

    static void terms3_cache_isEmptyAtFirst() {
        Run r = withOnes(1);
        r.due(0, r.about(READ));
        r.get(0);
        r.due(1, r.about(READ));
        r.get(0);
        r.due(1, r.about(READ));
    }

    static void terms3_cache_hasRoomForSix() {
        Run r = withOnes(7);
        getAll(r, 0, 5);
        r.due(6, r.about(READ));
        getAll(r, 0, 5);
        r.due(6, r.about(READ));
    }

    static void terms3_cache_theSeventhPushesOutTheOneUsedLongestAgo() {
        Run r = withOnes(7);
        getAll(r, 0, 6);
        r.due(7, r.about(READ));
        getAll(r, 1, 6);
        r.due(7, r.about(READ));
        r.get(0);
        r.due(8, r.about(READ));
        getAll(r, 2, 6);
        r.due(8, r.about(READ));
        r.get(1);
        r.due(9, r.about(READ));
    }

    static void terms3_cache_aBlockUsedAgainIsTheLatest() {
        Run r = withOnes(7);
        getAll(r, 0, 5);
        r.get(0);
        r.get(6);
        r.due(7, r.about(READ));
        r.get(0);
        r.due(7, r.about(READ));
        r.get(1);
        r.due(8, r.about(READ));
    }

    static void terms3_cache_anObjectOfSixBlocksStays() {
        Run r = new Run();
        r.store(1, 88);
        r.settle(200);
        r.due(88, r.get(1));
        r.due(6, r.about(READ));
        r.get(1);
        r.due(6, r.about(READ));
    }

    static void terms3_cache_anObjectOfSevenBlocksPushesItselfOut() {
        Run r = new Run();
        r.store(1, 89);
        r.settle(200);
        r.due(89, r.get(1));
        r.due(7, r.about(READ));
        r.get(1);
        r.due(14, r.about(READ));
        r.due(89, r.octet(88));
    }

    static void terms3_cache_isEmptyBehindACrash() {
        Run r = withOnes(2);
        r.flush();
        r.settle(200);
        getAll(r, 0, 1);
        r.due(2, r.about(READ));
        r.crash();
        r.due(2, r.about(READ));
        r.recover();
        r.due(3, r.about(READ));
        getAll(r, 0, 1);
        r.due(5, r.about(READ));
    }

    static void terms3_cache_isNotAskedForWhatWaitsAndDoesNotKeepIt() {
        Run r = new Run();
        r.store(1, 20);
        r.due(20, r.get(1));
        r.due(0, r.about(READ));
        r.settle(200);
        r.get(1);
        r.due(2, r.about(READ));
    }

    static void terms3_cache_ofAnObjectThatWaitsInPart() {
        Run r = new Run();
        r.store(1, 40);
        r.issue(1);
        r.due(40, r.get(1));
        r.due(1, r.about(READ));
        r.due(40, r.octet(39));
        r.issue(0);
        r.get(1);
        r.due(2, r.about(READ));
        r.issue(0);
        r.get(1);
        r.due(3, r.about(READ));
        r.get(1);
        r.due(3, r.about(READ));
    }

    /**
     * Extent 0 was in use and is EMPTY again, and the next chunk is made there; its first blocks, as
     * many as the object of key 10 had, are in the cache. Keys 20 to 30 have an object of one block
     * each; all is on the disk.
     */
    private static Run withOldBlocksInTheCache(int n, int blocks) {
        Run r = new Run();
        r.store(10, n);
        r.putOnes(11, 16 - blocks);
        r.put(12, 0);
        r.settle(200);
        r.due(n, r.get(10));
        r.put(10, 0);
        r.put(11, 0);
        r.due(0, r.reclaim(0));
        for (int key = 20; key <= 30; key++) {
            r.put(key, 0);
        }
        r.settle(200);
        r.due(blocks, r.about(READ));
        r.due(1, r.about(4));
        r.due(16, r.extent(1, 0));
        r.due(0, r.extent(0, 0));
        return r;
    }

    static void terms3_cache_issueLeavesItButForBytes() {
        Run r = withOldBlocksInTheCache(8, 1);
        r.feedBytes(20, 101);
        r.put(40, 8);
        r.due(0, r.waiting(0, 1));
        r.settle(200);
        r.due(8, r.get(40));
        r.dueOctets(101, 102, 103, 104, 105, 106, 107, 108, -1);
        r.due(1, r.about(READ));
    }

    static void terms3_cache_aBlockThatWaitsHasItsNewBytesThoughTheCacheHasIt() {
        Run r = withOldBlocksInTheCache(8, 1);
        r.feedBytes(20, 101);
        r.put(40, 7);
        r.due(7, r.get(40));
        r.dueOctets(101, 102, 103, 104, 105, 106, 107, -1);
        r.due(1, r.about(READ));
    }

    static void terms3_cache_staysWhenABlockOfItWaits() {
        Run r = withOldBlocksInTheCache(8, 1);
        r.put(40, 0);
        getAll(r, 20, 24);
        r.due(6, r.about(READ));
        r.due(0, r.get(40));
        r.get(25);
        r.due(7, r.about(READ));
        r.settle(200);
        r.get(20);
        r.due(7, r.about(READ));
        r.get(40);
        r.due(8, r.about(READ));
    }

    static void terms3_cache_getUsesBlocksInOrder() {
        Run r = withOldBlocksInTheCache(30, 3);
        r.put(40, 0);
        r.put(41, 0);
        r.put(42, 0);
        r.settle(200);
        getAll(r, 20, 23);
        r.due(7, r.about(READ));
        r.get(42);
        r.get(41);
        r.due(7, r.about(READ));
        r.get(40);
        r.due(8, r.about(READ));
    }

    // ---- what RECLAIM and RECOVER use ----

    static void terms3_reclaim_usesLiveObjectsAlone() {
        Run r = new Run();
        r.store(1, 20);
        r.putOnes(2, 13);
        r.flush();
        r.put(3, 0);
        r.settle(200);
        r.due(4, r.extent(0, 1));
        r.due(2, r.reclaim(0));
        r.due(3, r.about(READ));
    }

    static void terms3_reclaim_doesNotReadWhatWaits() {
        Run r = new Run();
        r.storeSeven(1);
        r.storeSeven(2);
        r.put(3, 0);
        r.storeSeven(3);
        r.settle(10);
        r.due(2, r.reclaim(0));
        r.due(10, r.about(READ));
    }

    static void terms3_reclaim_thatFindsNoRoomUsesAllInOrder() {
        Run r = new Run();
        States.withOneEmptyAndSixteenInExtent0(r);
        r.due(0, r.about(READ));
        r.due(-2, r.reclaim(0));
        r.due(16, r.about(READ));
        getAll(r, 10, 15);
        r.due(16, r.about(READ));
        r.get(9);
        r.due(17, r.about(READ));
    }

    static void terms3_reclaim_thatFindsNoRoomForItsFirstObjectUsesAll() {
        Run r = new Run();
        r.store(1, 9);
        r.store(2, 9);
        r.putOnes(0, 92);
        r.settle(200);
        r.flush();
        r.putOnes(0, 15);
        r.settle(200);
        r.flush();
        r.putOnes(0, 14);
        r.settle(200);
        r.due(0, r.about(3));
        r.due(15, r.extent(7, 0));
        r.due(-2, r.reclaim(0));
        r.due(4, r.about(READ));
    }

    static void terms3_reclaim_thatIsRefusedUsesThemToo() {
        Run r = new Run();
        r.storeSeven(1);
        r.settle(200);
        r.putAndFlush(0, 39);
        r.due(-3, r.reclaim(0));
        r.due(7, r.about(READ));
        r.due(-3, r.reclaim(0));
        r.due(14, r.about(READ));
    }

    static void terms3_reclaim_thatIsNoneUsesNothing() {
        Run r = withOnes(3);
        r.due(-1, r.reclaim(0));
        r.due(-1, r.reclaim(1));
        r.due(-1, r.reclaim(8));
        r.due(0, r.about(READ));
    }

    static void terms3_recover_withoutTablesReadsNothing() {
        Run r = withOnes(3);
        r.crash();
        r.due(0, r.recover());
        r.due(0, r.about(READ));
    }

    static void terms3_recover_readsEachBlockOfEachTable() {
        Run r = withOnes(3);
        r.flush();
        r.putAndFlush(7, 2);
        r.settle(200);
        r.crash();
        r.due(4, r.recover());
        r.due(2 + 1 + 1, r.about(READ));
    }

    static void terms3_recover_readsNoTableThatTheRecordDoesNotName() {
        Run r = new Run();
        r.putAndFlush(1, 4);
        r.settle(200);
        r.crash();
        r.due(1, r.recover());
        r.due(1, r.about(READ));
    }

    /** The oldest table is read last, so it is in the cache; its block becomes that of key 31. */
    static void terms3_recover_usesTheNewestTableFirst() {
        Run r = new Run();
        r.putOnes(0, 15);
        r.flush();
        r.putAndFlush(0, 1);
        for (int key = 1; key <= 24; key++) {
            r.put(key, 0);
        }
        r.flush();
        r.settle(200);
        r.due(16, r.extent(2, 0));
        r.crash();
        r.due(25, r.recover());
        r.due(1 + 1 + 6, r.about(READ));
        r.due(0, r.reclaim(0));
        r.putOnes(30, 10);
        r.putOnes(31, 16);
        r.due(0, r.about(4));
        r.due(16, r.extent(0, 0));
        r.settle(200);
        r.get(31);
        r.due(8, r.about(READ));
    }

    static void terms3_reads_noneByOtherCalls() {
        Run r = withOnes(5);
        r.flush();
        r.putAndFlush(7, 2);
        r.settle(200);
        r.put(8, 0);
        r.due(3, r.about(8));
        r.due(1, r.flush());
        r.settle(200);
        r.list(3);
        r.extent(0, 1);
        r.poll(1);
        r.delete(3);
        r.disk(0, 0, 0);
        r.due(0, r.about(READ));
    }
}
