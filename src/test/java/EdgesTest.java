/** Each sentence of promises 1 to 55 that names a boundary case, quoted and held; fails if a sentence has no test. */
public final class EdgesTest {
  public static void main(String[] args) {
    EdgesOfRain.run();
    EdgesOfTerms.run();
    EdgesOfFarms.run();
    EdgesOfFields.run();
    EdgesOfPrices.run();
    EdgesOfPaying.run();
    EdgesOfGroups.run();
    EdgesOfActs.run();
    EdgesOfRefusals.run();
    Edges.end();
  }
}
