/** What the document says, from its first line: each sentence by a test of its own; none is left out. */
final class EdgesTest {
    public static void main(String[] args) {
        EdgesOfStory.check();
        EdgesOfHills.check();
        EdgesOfSticks.check();
        EdgesOfWouldBe.check();
        EdgesOfSeen.check();
        EdgesOfTold.check();
        EdgesOfRefusals.check();
        Doc.allIsQuoted();
        Check.end();
    }
}
